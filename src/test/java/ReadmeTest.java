import java.io.IOException;
import java.lang.reflect.Method;
import java.lang.reflect.Modifier;
import java.nio.file.Files;
import java.nio.file.Path;
import java.util.HashSet;
import java.util.Set;
import java.util.regex.Matcher;
import java.util.regex.Pattern;

/** The example in README.md: each of its calls, in their order, answers what is written beside it. */
public final class ReadmeTest {
    private static final Pattern CALL = Pattern.compile("office\\.(\\w+)\\(([^)]*)\\);\\s*// (-?\\d+)");

    public static void main(String[] args) throws IOException {
        Due due = new Due();
        due.about("README.md");
        Run office = new Run(due);
        Set<String> shown = new HashSet<>();
        for (String line : Files.readAllLines(Path.of("README.md"))) {
            Matcher call = CALL.matcher(line);
            if (call.find()) {
                shown.add(call.group(1));
                office.is(Integer.parseInt(call.group(3)), call.group(1), numbers(call.group(2)));
            } else {
                due.holds("the answer stands beside " + line, !line.startsWith("office."));
            }
        }
        for (Method method : VoucherOffice.class.getDeclaredMethods()) {
            if (Modifier.isPublic(method.getModifiers())) {
                due.holds("the example has " + method.getName(), shown.contains(method.getName()));
            }
        }
        due.end();
    }

    private static int[] numbers(String given) {
        if (given.isEmpty()) {
            return new int[0];
        }
        String[] parts = given.split(", ");
        int[] numbers = new int[parts.length];
        for (int i = 0; i < parts.length; i++) {
            numbers[i] = Integer.parseInt(parts[i]);
        }
        return numbers;
    }
}
