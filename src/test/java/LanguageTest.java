import java.io.IOException;
import java.lang.reflect.Constructor;
import java.lang.reflect.Field;
import java.lang.reflect.Method;
import java.lang.reflect.Modifier;
import java.nio.file.Files;
import java.nio.file.Path;
import java.util.ArrayList;
import java.util.HashSet;
import java.util.List;
import java.util.Set;
import java.util.regex.Matcher;
import java.util.regex.Pattern;

/**
 * The rules of LANGUAGE.md as far as the compiled class and the words of its file tell them. It is
 * narrower than the rules where the class needs less: the document names no exception, so that it has
 * no throw, and of the library it uses Math alone.
 */
public final class LanguageTest {
    private static final Path SOURCE = Path.of("src/main/java/VoucherOffice.java");
    private static final Set<String> NOT_USED = Set.of(
        "import", "package", "throw", "throws", "try", "catch", "finally", "synchronized", "assert",
        "protected", "volatile", "transient", "native", "yield", "var");
    private static final Set<Class<?>> CONSTANTS =
        Set.of(int.class, long.class, boolean.class, char.class, String.class);
    private static final int LONGEST_METHOD = 60;

    private static final Due DUE = new Due();

    public static void main(String[] args) throws IOException {
        List<Class<?>> classes = new ArrayList<>(List.of(VoucherOffice.class.getDeclaredClasses()));
        classesInside(classes);
        classes.add(VoucherOffice.class);
        privateNames();
        for (Class<?> one : classes) {
            staticFields(one);
            sizes(one);
        }
        String code = withoutComments(Files.readString(SOURCE));
        words(code, classes);
        methodLengths(code);
        DUE.end();
    }

    private static void privateNames() {
        DUE.about("rule 1");
        Set<String> open = new HashSet<>();
        for (Method method : VoucherOffice.class.getMethods()) {
            open.add(method.getName());
        }
        for (Method method : VoucherOffice.class.getDeclaredMethods()) {
            boolean hidden = Modifier.isPrivate(method.getModifiers());
            DUE.holds(method + " has a name of its own", !hidden || !open.contains(method.getName()));
        }
    }

    private static void classesInside(List<Class<?>> classes) {
        DUE.about("rules 1, 2 and 11");
        DUE.holds("at most twelve classes", classes.size() + 1 <= 12);
        for (Class<?> one : classes) {
            int is = one.getModifiers();
            DUE.holds(one + " is static", Modifier.isStatic(is));
            DUE.holds(one + " is not open", !Modifier.isPublic(is) && !Modifier.isProtected(is));
            DUE.is("classes inside " + one, one.getDeclaredClasses().length, 0);
            for (Method method : one.getDeclaredMethods()) {
                boolean ofObject = Set.of("equals", "hashCode", "toString").contains(method.getName());
                DUE.holds("rule 6: " + method + " is none of Object", !ofObject);
            }
        }
    }

    private static void staticFields(Class<?> one) {
        DUE.about("rule 5");
        for (Field field : one.getDeclaredFields()) {
            if (Modifier.isStatic(field.getModifiers())) {
                DUE.holds(field + " is final", Modifier.isFinal(field.getModifiers()));
                DUE.holds(field + " is a constant", CONSTANTS.contains(field.getType()));
            }
        }
    }

    private static void sizes(Class<?> one) {
        DUE.about("rule 11");
        int fields = 0;
        for (Field field : one.getDeclaredFields()) {
            fields += Modifier.isStatic(field.getModifiers()) ? 0 : 1;
        }
        DUE.holds(one + " has at most twenty fields", fields <= 20);
        for (Method method : one.getDeclaredMethods()) {
            DUE.holds(method + " takes at most seven", method.getParameterCount() <= 7);
        }
        for (Constructor<?> made : one.getDeclaredConstructors()) {
            DUE.holds(made + " takes at most seven", made.getParameterCount() <= 7);
        }
    }

    private static void words(String code, List<Class<?>> classes) {
        DUE.about("rules 2, 4, 5, 6 and 10");
        Set<String> known = new HashSet<>(Set.of("Math", "Override"));
        for (Class<?> one : classes) {
            known.add(one.getSimpleName());
        }
        Matcher word = Pattern.compile("[A-Za-z_]\\w*").matcher(code);
        while (word.find()) {
            String text = word.group();
            DUE.holds("without " + text, !NOT_USED.contains(text));
            boolean isType = text.matches("[A-Z].*[a-z].*");
            DUE.holds(text + " is of this file, or Math", !isType || known.contains(text));
        }
        DUE.holds("no lambda", !code.contains("->"));
        DUE.holds("no method reference", !code.contains("::"));
        DUE.holds("no texts", !code.contains("\""));
        DUE.holds("no initialiser block", !code.matches("(?s).*static\\s*\\{.*"));
        Matcher function = Pattern.compile("Math\\s*\\.\\s*(\\w+)").matcher(code);
        while (function.find()) {
            DUE.holds("Math." + function.group(1) + " does not throw", !function.group(1).endsWith("Exact"));
        }
    }

    /** From a line that opens a method to the next that closes something as far to the left. */
    private static void methodLengths(String code) {
        DUE.about("rule 11");
        String[] lines = code.split("\n");
        for (int from = 0; from < lines.length; from++) {
            Matcher head = Pattern.compile("( +)[\\w\\[\\] ]+\\([\\w\\[\\], ]*\\) \\{").matcher(lines[from]);
            if (head.matches()) {
                int to = from;
                while (to < lines.length && !lines[to].equals(head.group(1) + "}")) {
                    to++;
                }
                DUE.holds("short enough: " + lines[from].trim(), to - from < LONGEST_METHOD);
            }
        }
    }

    private static String withoutComments(String code) {
        return code.replaceAll("(?s)/\\*.*?\\*/", "").replaceAll("//[^\n]*", "");
    }
}
