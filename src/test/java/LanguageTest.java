import java.io.IOException;
import java.lang.reflect.Executable;
import java.lang.reflect.Field;
import java.lang.reflect.Modifier;
import java.nio.file.Files;
import java.nio.file.Path;
import java.util.ArrayList;
import java.util.List;
import java.util.Set;
import java.util.TreeSet;
import java.util.regex.Matcher;
import java.util.regex.Pattern;

/** The rules of LANGUAGE.md, as far as the text of the class and its members show them. */
public final class LanguageTest {
    private static final Path SOURCE = Path.of("src/main/java/Islandgrid.java");
    private static final Set<String> EXCEPTIONS = Set.of("IllegalStateException", "IllegalArgumentException",
            "IndexOutOfBoundsException", "ArithmeticException", "UnsupportedOperationException",
            "NoSuchElementException", "RuntimeException");
    private static final Set<String> LIBRARY = Set.of("String", "StringBuilder", "ArrayList", "List", "Integer",
            "Long", "Math", "Iterator", "Iterable", "Comparable", "Arrays", "System");
    private static final int MOST_CLASSES = 12;
    private static final int MOST_FIELDS = 20;
    private static final int MOST_PARAMETERS = 7;
    private static final int MOST_LINES = 60;

    private static String text;
    /** The text without comments and without what is between quotes. */
    private static String code;

    public static void main(String[] args) throws IOException {
        text = Files.readString(SOURCE);
        code = text.replaceAll("(?s)/\\*.*?\\*/", "").replaceAll("//[^\n]*", "")
                .replaceAll("\"[^\"\n]*\"", "\"\"").replaceAll("'[^'\n]*'", "' '");
        Check.runAll(LanguageTest.class);
    }

    private static List<String> found(String pattern) {
        List<String> found = new ArrayList<>();
        Matcher matcher = Pattern.compile(pattern, Pattern.MULTILINE).matcher(code);
        while (matcher.find()) {
            found.add(matcher.group(matcher.groupCount()));
        }
        return found;
    }

    private static List<Class<?>> allClasses() {
        List<Class<?>> all = new ArrayList<>(List.of(Islandgrid.class.getDeclaredClasses()));
        all.add(Islandgrid.class);
        return all;
    }

    static void rule1NoPackageAndOneImport() {
        Check.same("package lines", found("^\\s*package\\b").toString(), "[]");
        Check.same("imports", found("^import ([^;]+);").toString(), "[java.util.NoSuchElementException]");
    }

    /** Of the library, what these names do not cover (Object, Thread, Random ..) is not used. */
    static void rules3And4OnlyTheTypesThatAreListed() {
        Set<String> own = new TreeSet<>();
        for (Class<?> each : allClasses()) {
            own.add(each.getSimpleName());
        }
        for (String name : found("(?<![\\w.])([A-Z]\\w*[a-z]\\w*)\\b")) {
            boolean listed = own.contains(name) || EXCEPTIONS.contains(name) || LIBRARY.contains(name);
            Check.same("a listed type: " + name, listed, true);
        }
        for (String function : found("\\bMath\\.(\\w+)")) {
            Check.same("a function of Math that does not throw: " + function, function.endsWith("Exact"), false);
        }
        for (String function : found("\\bSystem\\.(\\w+)")) {
            Check.same("a function of System", function, "arraycopy");
        }
    }

    static void rule4TextsHoldPlainSignsAlone() {
        for (int i = 0; i < text.length(); i++) {
            char sign = text.charAt(i);
            Check.same("a plain sign, number " + (int) sign, sign == '\n' || sign >= ' ' && sign <= '~', true);
        }
    }

    static void rule5StaticFieldsAreFinalConstants() {
        Set<String> types = Set.of("int", "long", "boolean", "char", "String", "int[]", "long[]", "char[]", "byte[]");
        for (Class<?> each : allClasses()) {
            for (Field field : each.getDeclaredFields()) {
                if (Modifier.isStatic(field.getModifiers())) {
                    Check.same("final: " + field.getName(), Modifier.isFinal(field.getModifiers()), true);
                    Check.same("a constant: " + field.getName(),
                            types.contains(field.getType().getSimpleName()), true);
                }
            }
        }
        Check.same("static blocks", found("\\bstatic\\s*\\{").toString(), "[]");
    }

    static void rule6EachThrowIsOfAListedExceptionWithAWrittenText() {
        int right = 0;
        for (String name : found("\\bthrow new (\\w+)\\((?:\"\")?\\);")) {
            Check.same("a listed exception: " + name, EXCEPTIONS.contains(name), true);
            right++;
        }
        Check.same("throws that are written so", right, found("\\bthrow\\b").size());
    }

    static void rules2And6And10NothingThatIsForbidden() {
        String[] patterns = {"->", "::", "\\bfinally\\b", "\\bsynchronized\\b", "\\bassert\\b", "\\btry\\s*\\(",
            "\\bvolatile\\b", "\\bnative\\b", "\\bvar\\b", "@", "\"\"\\s*\\+", "\\+\\s*\"\"", "\\byield\\b",
            "\\b(?:equals|hashCode|toString)\\s*\\(", "\\bgetMessage\\b"};
        for (String pattern : patterns) {
            Check.same("what is forbidden: " + pattern, found("(" + pattern + ")").toString(), "[]");
        }
    }

    /** Neither the machine's own exceptions are caught by name, nor a class above them. */
    static void rule7NothingOfTheMachineIsCaught() {
        Set<String> machine = Set.of("ArrayIndexOutOfBoundsException", "NullPointerException",
                "ClassCastException", "NegativeArraySizeException", "ArrayStoreException", "RuntimeException",
                "IndexOutOfBoundsException", "ArithmeticException", "Exception", "Throwable", "Error");
        for (String caught : found("\\bcatch\\s*\\(([^)]*)\\)")) {
            for (String name : caught.trim().split("[\\s|]+")) {
                Check.same("not of the machine: " + name, machine.contains(name), false);
            }
        }
    }

    static void rule11FewClassesFieldsAndParameters() {
        Check.same("classes", allClasses().size() <= MOST_CLASSES, true);
        for (Class<?> each : allClasses()) {
            int fields = 0;
            for (Field field : each.getDeclaredFields()) {
                fields += Modifier.isStatic(field.getModifiers()) ? 0 : 1;
            }
            Check.same("fields of " + each.getName() + ", few", fields <= MOST_FIELDS, true);
            List<Executable> calls = new ArrayList<>(List.of(each.getDeclaredMethods()));
            calls.addAll(List.of(each.getDeclaredConstructors()));
            for (Executable call : calls) {
                Check.same("parameters of " + call + ", few", call.getParameterCount() <= MOST_PARAMETERS, true);
            }
        }
    }

    static void rule11MethodsAreShort() {
        String[] lines = text.split("\n");
        Pattern head = Pattern.compile("^( {4}| {8})(?!return |throw |new )(?:\\w[\\w\\[\\]<>]* )*\\w+\\([^;]*$");
        int methods = 0;
        for (int start = 0; start < lines.length; start++) {
            Matcher matcher = head.matcher(lines[start]);
            if (matcher.matches() && !lines[start].matches("\\s*(?:if|for|while|do|switch|try)\\b.*")) {
                int end = start;
                while (end < lines.length - 1 && !lines[end].equals(matcher.group(1) + "}")) {
                    end++;
                }
                Check.same("a short method: " + lines[start].trim(), end - start < MOST_LINES, true);
                methods++;
            }
        }
        int due = 0;
        for (Class<?> each : allClasses()) {
            due += each.getDeclaredMethods().length;
        }
        Check.same("all methods are found", methods >= due, true);
    }
}
