import java.io.IOException;
import java.lang.reflect.InvocationTargetException;
import java.lang.reflect.Method;
import java.nio.file.Files;
import java.nio.file.Path;
import java.util.ArrayList;
import java.util.Arrays;
import java.util.List;
import java.util.regex.Matcher;
import java.util.regex.Pattern;

/** What README.md shows is what the class answers, and README.md leaves out no call. */
public final class ReadmeTest {
    private static final Path README = Path.of("README.md");
    private static final Pattern MAKE =
            Pattern.compile("HashedNames names = new HashedNames\\(\\);(\\s*//.*)?");
    private static final Pattern CALL =
            Pattern.compile("names\\.(\\w+)\\(([^()]*)\\);\\s*// (.*)");
    private static final Pattern ANSWER = Pattern.compile("(-?\\d+|throws \\w+): .*");
    private static final Pattern TABLE_ROW =
            Pattern.compile("\\| `(?:new )?(\\w+)\\(([^()]*)\\)` \\|.*");
    /** One that tells what the calls answer, and one that tells what they throw. */
    private static final int TABLES = 2;

    private static HashedNames names;

    private ReadmeTest() {
    }

    public static void main(String[] args) throws IOException {
        List<String> lines = Files.readAllLines(README);
        List<String> examples = examples(lines);
        Check.test("the examples answer as shown", () -> examples.forEach(ReadmeTest::show));
        for (Method method : HashedNames.class.getMethods()) {
            if (method.getDeclaringClass() == HashedNames.class) {
                Check.test(method.getName() + " is in an example",
                        () -> isShown(examples, method.getName()));
                Check.test(method.getName() + " is in both tables",
                        () -> isInTables(lines, method.getName(), method.getParameterCount()));
            }
        }
        Check.test("the constructor is in both tables", () -> isInTables(lines, "HashedNames", 0));
        Check.end();
    }

    /** The lines of the README's blocks of Java, in their order. */
    private static List<String> examples(List<String> lines) {
        List<String> found = new ArrayList<>();
        boolean inside = false;
        for (String line : lines) {
            if (line.startsWith("```")) {
                inside = line.equals("```java");
            } else if (inside) {
                found.add(line);
            }
        }
        return found;
    }

    private static void show(String line) {
        if (MAKE.matcher(line).matches()) {
            names = new HashedNames();
            return;
        }
        Matcher call = CALL.matcher(line);
        if (names == null || !call.matches()) {
            throw new IllegalStateException("this test cannot read the line: " + line);
        }
        String got = answer(call.group(1), numbers(call.group(2)));
        Matcher answer = ANSWER.matcher(call.group(3));
        String shown = answer.matches() ? answer.group(1) : "nothing";
        Check.due("README.md shows " + shown + ", the class answers " + got + ": " + line,
                got.equals(shown) ? 1 : 0, 1);
    }

    /** What a call answers, as the README writes it. */
    private static String answer(String name, Object[] arguments) {
        Class<?>[] types = new Class<?>[arguments.length];
        Arrays.fill(types, int.class);
        try {
            Object result = HashedNames.class.getMethod(name, types).invoke(names, arguments);
            return result == null ? "nothing" : result.toString();
        } catch (InvocationTargetException e) {
            return "throws " + e.getCause().getClass().getSimpleName();
        } catch (NoSuchMethodException | IllegalAccessException e) {
            return "no such call";
        }
    }

    private static Object[] numbers(String list) {
        String[] texts = list.split(", ");
        Object[] numbers = new Object[texts.length];
        for (int i = 0; i < texts.length; i++) {
            numbers[i] = Long.decode(texts[i]).intValue();
        }
        return numbers;
    }

    private static void isShown(List<String> examples, String name) {
        long uses = examples.stream().filter(line -> line.startsWith("names." + name + "(")).count();
        Check.due("README.md shows " + name, uses > 0 ? 1 : 0, 1);
    }

    private static void isInTables(List<String> lines, String name, int parameters) {
        int rows = 0;
        for (String line : lines) {
            Matcher row = TABLE_ROW.matcher(line);
            if (row.matches() && row.group(1).equals(name)) {
                rows++;
                Check.due("parameters of " + name + " in README.md",
                        row.group(2).isEmpty() ? 0 : row.group(2).split(", ").length, parameters);
            }
        }
        Check.due("tables of README.md that have " + name, rows, TABLES);
    }
}
