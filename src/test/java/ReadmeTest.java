import java.io.IOException;
import java.lang.reflect.Method;
import java.nio.file.Files;
import java.nio.file.Path;
import java.util.ArrayList;
import java.util.List;
import java.util.regex.Matcher;
import java.util.regex.Pattern;
import java.util.stream.Stream;

/** README.md tells how the class is used and tested as both stand. */
public final class ReadmeTest {
    private static final Path README = Path.of("README.md");
    private static final Path TESTS = Path.of("src/test/java");
    /** A line of the example: a call of the office, and behind // the answer, if it has one. */
    private static final Pattern CALL =
            Pattern.compile("office\\.(\\w+)\\((.*)\\); *// (?:(-?\\d+): )?.*");
    private static final int CALLS_IN_EXAMPLE = 12;

    private ReadmeTest() {
    }

    public static void main(String[] args) throws Exception {
        List<String> lines = Files.readAllLines(README);
        example(lines);
        everyCallIsTold(lines);
        everyTestIsTold(lines);
        Check.end();
    }

    private static void example(List<String> lines) throws ReflectiveOperationException {
        int begin = lines.indexOf("InspectionOffice office = new InspectionOffice();");
        Check.due("README has an example", true, begin >= 0);
        InspectionOffice office = new InspectionOffice();
        int calls = 0;
        for (int at = begin + 1; !lines.get(at).equals("```"); at++) {
            Matcher call = CALL.matcher(lines.get(at));
            Check.due("a call: " + lines.get(at), true, call.matches());
            Object answer = call(office, call.group(1), call.group(2).split(", *"));
            Check.due("an answer is told: " + lines.get(at), answer != null,
                    call.group(3) != null);
            if (answer != null) {
                Check.due(lines.get(at), Long.parseLong(call.group(3)),
                        ((Number) answer).longValue());
            }
            calls++;
        }
        Check.due("calls in the example", CALLS_IN_EXAMPLE, calls);
    }

    private static Object call(InspectionOffice office, String name, String[] words)
            throws ReflectiveOperationException {
        for (Method method : InspectionOffice.class.getMethods()) {
            if (method.getName().equals(name)) {
                Class<?>[] kinds = method.getParameterTypes();
                Object[] arguments = new Object[kinds.length];
                for (int i = 0; i < kinds.length; i++) {
                    arguments[i] = argument(words[i], kinds[i]);
                }
                return method.invoke(office, arguments);
            }
        }
        throw new NoSuchMethodException(name);
    }

    private static Object argument(String word, Class<?> kind) {
        if (kind == boolean.class) {
            return Boolean.valueOf(word);
        }
        if (kind == int.class) {
            return Integer.valueOf(word);
        }
        String digits = word.replace("L", "");
        return digits.startsWith("0b") ? Long.valueOf(digits.substring(2), 2)
                : Long.valueOf(digits);
    }

    /** Each call has a row of its own, by its name and as many arguments as it has. */
    private static void everyCallIsTold(List<String> lines) {
        for (Method method : InspectionOffice.class.getMethods()) {
            if (method.getDeclaringClass() == InspectionOffice.class) {
                int arguments = method.getParameterCount();
                String given = arguments == 0 ? "" : "\\w+(, \\w+){" + (arguments - 1) + "}";
                due(lines, "\\| `" + method.getName() + "\\(" + given + "\\)` \\| .+ \\|");
            }
        }
        due(lines, "\\| `new InspectionOffice\\(\\)` \\| .+ \\|");
    }

    private static void due(List<String> lines, String row) {
        long rows = lines.stream().filter(line -> line.matches(row)).count();
        Check.due("rows of README like " + row, 1, rows);
    }

    private static void everyTestIsTold(List<String> lines) throws IOException {
        List<String> told = new ArrayList<>();
        for (String line : lines) {
            if (line.matches("\\| `\\w+Test` \\| .+ \\|")) {
                told.add(line.replaceAll("\\| `(\\w+)` .*", "$1"));
            }
        }
        List<String> there = new ArrayList<>();
        try (Stream<Path> files = Files.list(TESTS)) {
            files.map(file -> file.getFileName().toString())
                    .filter(name -> name.endsWith("Test.java"))
                    .forEach(name -> there.add(name.replace(".java", "")));
        }
        told.sort(null);
        there.sort(null);
        Check.due("tests told " + told + ", tests there " + there, true, told.equals(there));
    }
}
