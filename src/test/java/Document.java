import java.io.IOException;
import java.nio.file.Files;
import java.nio.file.Path;
import java.util.LinkedHashMap;
import java.util.Map;
import java.util.regex.Matcher;
import java.util.regex.Pattern;

/** The words of ../shared/DOC.md, part by part, and which of them have been quoted. */
final class Document {
    /** One part: its heading up to the colon, and the words under it with single blanks. */
    private static final class Part {
        private final String words;
        private final boolean[] quoted;

        Part(String words) {
            this.words = words;
            this.quoted = new boolean[words.length()];
        }
    }

    private final Map<String, Part> parts = new LinkedHashMap<>();

    Document(Path file) throws IOException {
        for (String section : Files.readString(file).split("(?m)^## ")) {
            String heading = section.lines().findFirst().orElse("");
            String body = section.substring(heading.length());
            parts.put(heading.split(":")[0].trim(), new Part(words(body)));
        }
    }

    /** A promise begins with the method's head, which is no sentence; the fences of a block are none either. */
    private static String words(String body) {
        return body.replaceAll("(?m)^```.*$", " ").replaceAll("\\s+", " ").trim().replaceAll("^`[^`]*`: ", "");
    }

    /** False if the part has no such words. */
    boolean quote(String part, String words) {
        Part in = parts.get(part);
        if (in == null) {
            return false;
        }
        int at = in.words.indexOf(words);
        boolean found = at >= 0;
        while (at >= 0) {
            for (int i = at; i < at + words.length(); i++) {
                in.quoted[i] = true;
            }
            at = in.words.indexOf(words, at + 1);
        }
        return found;
    }

    /** The words of Terms and of the promises that nobody quoted, each with its part. */
    Map<String, String> unquoted() {
        Map<String, String> left = new LinkedHashMap<>();
        parts.forEach((name, part) -> {
            StringBuilder rest = new StringBuilder();
            for (int i = 0; i < part.words.length(); i++) {
                rest.append(part.quoted[i] ? ' ' : part.words.charAt(i));
            }
            Matcher something = Pattern.compile("\\w").matcher(rest);
            if (name.matches("Terms|Promise \\d+") && something.find()) {
                left.put(name, rest.toString().replaceAll("\\s+", " ").trim());
            }
        });
        return left;
    }

    long promises() {
        return parts.keySet().stream().filter(name -> name.startsWith("Promise ")).count();
    }
}
