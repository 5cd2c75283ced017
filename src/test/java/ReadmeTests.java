import java.io.IOException;
import java.lang.reflect.InvocationTargetException;
import java.lang.reflect.Method;
import java.nio.file.Files;
import java.nio.file.Path;
import java.util.ArrayList;
import java.util.List;
import java.util.regex.Matcher;
import java.util.regex.Pattern;

/** What README.md says of the class is so: it names every call, and its example answers as it tells. */
public final class ReadmeTests {
    private static final Pattern HEAD = Pattern.compile("public (?:int|long) (\\w+)\\(([^)]*)\\);");
    private static final Pattern EXAMPLE = Pattern.compile("(?s)```java\\nDuelSamples d = new DuelSamples\\(\\);\\n(.*?)```");
    private static final Pattern CALL = Pattern.compile("d\\.(\\w+)\\(([^)]*)\\); +// (-?\\d+)(?::.*)?");
    private static final Pattern TEXT = Pattern.compile("type\\(d, \"([^\"]*)\"\\); +//.*");
    private static final Pattern QUOTED = Pattern.compile("the answer, \"([^\"]*)\"");

    private ReadmeTests() {
    }

    public static void main(String[] args) throws IOException, ReflectiveOperationException {
        String readme = Files.readString(Path.of("README.md"));
        namesEveryCall(readme, Files.readString(Path.of("../shared/DOC.md")));
        namesEveryWord(readme);
        namesTheTests(readme);
        Matcher example = EXAMPLE.matcher(readme);
        Check.holds("README.md has an example", example.find());
        if (Check.wrong() == 0) {
            answersAsTold(example.group(1).lines().toList());
        }
        Check.end("ReadmeTests");
    }

    private static void namesEveryCall(String readme, String document) {
        Matcher head = HEAD.matcher(document);
        int heads = 0;
        while (head.find()) {
            heads++;
            String call = head.group(1) + "(" + head.group(2).replaceAll("\\bint ", "") + ")";
            Check.holds("README.md tells what " + call + " is for", readme.contains("| `" + call + "` | "));
        }
        Check.due("calls of the document's face", heads, 26);
    }

    private static void namesEveryWord(String readme) {
        String[] sentences = {"unit c p t x y;", "turn u c;", "place u p;", "stratum u t;", "size u x;", "value u y;",
            "row;", "near;", "strata;", "far;", "chance;", "walk n;", "many;"};
        for (String sentence : sentences) {
            Check.holds("README.md tells of the sentence " + sentence, readme.contains("`" + sentence + "`"));
        }
    }

    private static void namesTheTests(String readme) throws IOException {
        Check.holds("README.md says how the tests are run", readme.contains("`.ci/run`"));
        try (var files = Files.list(Path.of("src/test/java"))) {
            for (String name : files.map(file -> file.getFileName().toString()).toList()) {
                if (name.endsWith("Tests.java")) {
                    String test = name.replace(".java", "");
                    Check.holds("README.md tells of " + test, readme.contains("`" + test + "`: "));
                }
            }
        }
    }

    /** A line that can't be understood is wrong, too: else it would be believed without having been tried. */
    private static void answersAsTold(List<String> lines) throws ReflectiveOperationException {
        DuelSamples d = new DuelSamples();
        for (String line : lines) {
            Matcher call = CALL.matcher(line);
            Matcher text = TEXT.matcher(line);
            Matcher quoted = QUOTED.matcher(line);
            if (call.matches()) {
                Check.due("README.md: " + line, answer(d, call.group(1), call.group(2)), Long.parseLong(call.group(3)));
            } else if (text.matches()) {
                text.group(1).chars().forEach(d::type);
            } else {
                Check.holds("README.md has an answer for: " + line, false);
            }
            if (quoted.find()) {
                Check.due("README.md: " + line, inWords(d), quoted.group(1));
            }
        }
    }

    private static long answer(DuelSamples d, String name, String numbers)
            throws IllegalAccessException, InvocationTargetException {
        List<Object> values = new ArrayList<>();
        for (String number : numbers.isEmpty() ? new String[0] : numbers.split(", ")) {
            values.add(number.equals("DuelSamples.NONE") ? DuelSamples.NONE : Integer.parseInt(number));
        }
        for (Method method : DuelSamples.class.getMethods()) {
            if (method.getName().equals(name) && method.getParameterCount() == values.size()) {
                return ((Number) method.invoke(d, values.toArray())).longValue();
            }
        }
        throw new IllegalArgumentException("no call " + name + " with " + values.size() + " numbers");
    }

    private static String inWords(DuelSamples d) {
        StringBuilder words = new StringBuilder();
        for (int k = 0; k < d.answer(DuelSamples.NONE); k++) {
            words.append((char) d.answer(k));
        }
        return words.toString();
    }
}
