import java.io.IOException;
import java.lang.reflect.Constructor;
import java.lang.reflect.Field;
import java.lang.reflect.Method;
import java.lang.reflect.Modifier;
import java.nio.file.Files;
import java.nio.file.Path;
import java.util.Arrays;
import java.util.Set;
import java.util.TreeSet;
import java.util.regex.Matcher;
import java.util.regex.Pattern;
import java.util.stream.Collectors;

/** The rules of LANGUAGE.md that can be seen from the source's text or from the class. Run from the project's root. */
public final class LanguageTests {
    private static final String FACE = "int unit(int,int,int,int,int)|int sets(int,int,int)|int empties()|int draw(int,int)"
            + "|int of(int,int)|int all(int)|int method(int)|int walk(int)|int was(int)|int play(int,int)|long counted(int)"
            + "|int inside(int)|int spread()|int often(int,int,int)|int both(int,int,int,int)|long best(int,int,int)"
            + "|int many()|int sizes(int)|int can(int,int)|long least()|int type(int)|int clear()|int says()|int answer(int)"
            + "|int told(int)|long digest()";

    private LanguageTests() {
    }

    public static void main(String[] args) throws IOException {
        String source = Files.readString(Path.of("src/main/java/DuelSamples.java"));
        face();
        classesInside();
        words(withoutTexts(source));
        library(withoutTexts(source));
        lengths(source);
        Check.end("LanguageTests");
    }

    private static String signature(Method m) {
        return m.getReturnType().getName() + " " + m.getName() + "("
                + Arrays.stream(m.getParameterTypes()).map(Class::getName).collect(Collectors.joining(",")) + ")";
    }

    private static void face() {
        Class<?> c = DuelSamples.class;
        Check.holds("1 public and final", Modifier.isPublic(c.getModifiers()) && Modifier.isFinal(c.getModifiers()));
        Set<String> want = new TreeSet<>(Arrays.asList(FACE.split("\\|")));
        Set<String> got = Arrays.stream(c.getDeclaredMethods()).filter(m -> Modifier.isPublic(m.getModifiers()))
                .map(LanguageTests::signature).collect(Collectors.toCollection(TreeSet::new));
        Check.due("1 public methods", got.toString(), want.toString());
        Set<String> fields = Arrays.stream(c.getDeclaredFields()).filter(f -> Modifier.isPublic(f.getModifiers()))
                .map(Field::getName).collect(Collectors.toCollection(TreeSet::new));
        Check.due("1 public constants", fields.toString(), "[BAD, FULL, NO, NONE]");
        for (Method m : c.getDeclaredMethods()) {
            int how = m.getModifiers();
            Check.holds("1 public or private: " + m.getName(), Modifier.isPublic(how) || Modifier.isPrivate(how));
        }
        for (Field f : c.getDeclaredFields()) {
            int how = f.getModifiers();
            Check.holds("1 public or private: " + f.getName(), Modifier.isPublic(how) || Modifier.isPrivate(how));
        }
        Constructor<?>[] constructors = c.getDeclaredConstructors();
        Check.due("1 constructors", constructors.length, 1);
        Check.holds("1 public constructor", Modifier.isPublic(constructors[0].getModifiers()));
    }

    private static void classesInside() {
        Set<String> open = Arrays.stream(FACE.split("\\|")).map(s -> s.replaceAll(".* |\\(.*", ""))
                .collect(Collectors.toSet());
        Class<?>[] inside = DuelSamples.class.getDeclaredClasses();
        Check.holds("11 some twelve classes", inside.length <= 11);
        for (Class<?> c : inside) {
            int how = c.getModifiers();
            Check.holds("2 static: " + c, Modifier.isStatic(how) && !Modifier.isPublic(how));
            members(c, open);
        }
        members(DuelSamples.class, Set.of());
    }

    private static void members(Class<?> c, Set<String> taken) {
        int fields = 0;
        for (Field f : c.getDeclaredFields()) {
            boolean fixed = Modifier.isStatic(f.getModifiers());
            fields += fixed ? 0 : 1;
            Check.holds("5 static is final: " + f, !fixed || Modifier.isFinal(f.getModifiers()));
            Check.holds("5 static constant: " + f, !fixed || f.getType().isPrimitive() || f.getType() == String.class
                    || f.getType().isArray() && f.getType().getComponentType().isPrimitive());
        }
        Check.holds("11 some twenty fields: " + c, fields <= 20);
        for (Method m : c.getDeclaredMethods()) {
            Check.holds("1 no name of the face: " + m, !taken.contains(m.getName()));
            Check.holds("11 seven parameters: " + m, m.getParameterCount() <= 7);
        }
    }

    /** Comments, texts and characters may hold any word. */
    private static String withoutTexts(String source) {
        return source.replaceAll("(?s)/\\*.*?\\*/", " ").replaceAll("//[^\n]*", " ")
                .replaceAll("\"(\\\\.|[^\"\\\\])*\"", "\"\"").replaceAll("'(\\\\.|[^'\\\\])'", "' '");
    }

    private static void words(String code) {
        for (String word : new String[] {"throw", "throws", "try", "catch", "synchronized", "assert", "package", "protected",
            "volatile", "native", "var", "Object", "System.out", "System.err", "equals", "hashCode", "toString"}) {
            Check.holds("6 no " + word, !Pattern.compile("\\b" + Pattern.quote(word) + "\\b").matcher(code).find());
        }
        Check.holds("2 no lambda", !code.contains("->"));
        Check.holds("2 no method reference", !code.contains("::"));
        Check.holds("2 no anonymous class", !Pattern.compile("new\\s+\\w+\\s*\\([^)]*\\)\\s*\\{").matcher(code).find());
        Check.holds("5 no static block", !Pattern.compile("static\\s*\\{").matcher(code).find());
        Check.holds("9 no loop without a bound", !Pattern.compile("while\\s*\\(\\s*true|for\\s*\\(\\s*;").matcher(code).find());
        Check.holds("signs 1 to 127", code.chars().allMatch(c -> c >= 1 && c <= 127));
    }

    private static void library(String code) {
        Matcher imports = Pattern.compile("import\\s+([\\w.*]+)").matcher(code);
        while (imports.find()) {
            Check.holds("4 import " + imports.group(1), Set.of("java.util.Arrays", "java.util.ArrayList", "java.util.List",
                    "java.util.Iterator").contains(imports.group(1)));
        }
        Set<String> may = Set.of("Math.abs", "Math.min", "Math.max", "Integer.bitCount", "Long.bitCount", "Arrays.fill",
                "java.util");
        Matcher calls = Pattern.compile("\\b(Math|Integer|Long|Arrays|System|String|StringBuilder|List|java)\\.(\\w+)")
                .matcher(code);
        while (calls.find()) {
            Check.holds("4 library " + calls.group(), may.contains(calls.group()));
        }
        Check.holds("12 objects are made in constructors and fields alone",
                code.lines().filter(l -> l.matches(".*\\bnew\\b.*"))
                        .allMatch(l -> l.matches("\\s*(private final .*|\\w+ = new \\w+\\(\\);)")));
    }

    /** A method begins with a line that ends in ") {" at the depth of a class's members. */
    private static void lengths(String source) {
        String[] lines = source.split("\n");
        Pattern head = Pattern.compile("(    |        )(public|private|static|int|long|boolean|void|String)\\b.*\\) \\{");
        int methods = 0;
        for (int i = 0; i < lines.length; i++) {
            Matcher m = head.matcher(lines[i]);
            if (m.matches()) {
                int end = i;
                while (end < lines.length && !lines[end].equals(m.group(1) + "}")) {
                    end++;
                }
                methods++;
                Check.holds("11 short: " + lines[i].trim(), end - i < 60);
            }
        }
        Check.holds("methods were found", methods > 50);
    }
}
