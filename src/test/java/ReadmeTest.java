import java.io.File;
import java.io.IOException;
import java.lang.reflect.Method;
import java.lang.reflect.Modifier;
import java.nio.file.Files;
import java.nio.file.Path;
import java.util.Arrays;
import java.util.List;
import java.util.regex.Matcher;
import java.util.regex.Pattern;
import java.util.stream.Collectors;

/** What README.md tells of the class: its example, and its tables of the calls. */
public final class ReadmeTest {
    private static final Pattern EXAMPLE = Pattern.compile("office\\.(\\w+)\\(([^)]*)\\);\\s*// (\\S+).*");
    private static final Pattern ROW = Pattern.compile("\\| `(\\w+)\\(([^)]*)\\)`[^|]*\\|([^|]+)\\|([^|]+)\\|");
    private static final Pattern EXCEPTION = Pattern.compile("`(\\w+Exception)`");

    public static void main(String[] args) throws IOException {
        List<String> lines = Files.readAllLines(Path.of("README.md"));
        example(lines);
        for (Method method : OnboardingWorks.class.getDeclaredMethods()) {
            if (Modifier.isPublic(method.getModifiers())) {
                row(lines, method);
            }
        }
        testsAreNamed(String.join(" ", lines));
        Check.end();
    }

    private static void example(List<String> lines) {
        OnboardingWorks office = new OnboardingWorks();
        int calls = 0;
        for (String line : lines) {
            Matcher call = EXAMPLE.matcher(line);
            if (call.matches()) {
                String got = Calls.answer(office, call.group(1), numbers(call.group(2)));
                same("the example: " + line, got, call.group(3));
                calls++;
            }
        }
        Check.due("the calls of the example", calls, 22);
    }

    private static int[] numbers(String with) {
        return Arrays.stream(with.split(",")).map(String::trim).filter(text -> !text.isEmpty())
                .mapToInt(Integer::parseInt).toArray();
    }

    /** One row for each call: its parameters, what it returns, what it throws, in the order of the face. */
    private static void row(List<String> lines, Method method) {
        int rows = 0;
        for (String line : lines) {
            Matcher row = ROW.matcher(line);
            if (row.matches() && row.group(1).equals(method.getName())) {
                rows++;
                long parameters = Arrays.stream(row.group(2).split(",")).filter(name -> !name.isEmpty()).count();
                Check.due("the parameters told of " + method.getName(), parameters, method.getParameterCount());
                same("the exceptions told of " + method.getName(), exceptions(row.group(4)), declared(method));
            }
        }
        Check.due("rows that tell of " + method.getName(), rows, 1);
    }

    private static String exceptions(String cell) {
        return EXCEPTION.matcher(cell).results().map(found -> found.group(1)).collect(Collectors.joining(","));
    }

    private static String declared(Method method) {
        return Arrays.stream(method.getExceptionTypes()).map(Class::getSimpleName)
                .collect(Collectors.joining(","));
    }

    private static void testsAreNamed(String text) {
        File[] files = new File("src/test/java").listFiles();
        for (File file : files == null ? new File[0] : files) {
            String name = file.getName().replace(".java", "");
            if (!text.contains("`" + name + "`")) {
                Check.tell("README.md does not name " + name);
            }
        }
    }

    private static void same(String what, String got, String want) {
        if (!got.equals(want)) {
            Check.tell(what + ": " + got + ", due is " + want);
        }
    }
}
