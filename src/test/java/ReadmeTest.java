import java.io.IOException;
import java.lang.reflect.Method;
import java.nio.file.Files;
import java.nio.file.Path;
import java.util.List;
import java.util.TreeSet;
import java.util.regex.Matcher;
import java.util.regex.Pattern;
import java.util.stream.Collectors;
import java.util.stream.Stream;

/** README.md: the run of calls that it shows answers what stands beside each call, and it names every test. */
public final class ReadmeTest {
    private static final Check CHECK = new Check();
    private static final Path README = Path.of("README.md");
    private static final Path TESTS = Path.of("src/test/java");
    private static final Pattern CALL = Pattern.compile("office\\.(\\w+)\\((.*)\\);\\s+// (-?\\d+)\\b.*");

    public static void main(String[] args) throws IOException, ReflectiveOperationException {
        List<String> lines = Files.readAllLines(README);
        run(lines);
        tests(String.join("\n", lines));
        CHECK.end();
    }

    private static void run(List<String> lines) throws ReflectiveOperationException {
        GiftOffice office = null;
        TreeSet<String> made = new TreeSet<>();
        boolean inside = false;
        for (String line : lines) {
            if (line.startsWith("```")) {
                inside = line.equals("```java");
            } else if (inside && line.equals("GiftOffice office = new GiftOffice();")) {
                office = new GiftOffice();
            } else if (inside && !line.isEmpty() && !line.startsWith("// ")) {
                Matcher call = CALL.matcher(line);
                boolean told = call.matches() && office != null;
                CHECK.holds("a call with its answer: " + line, told);
                if (told) {
                    CHECK.due(line, answer(office, call.group(1), call.group(2)), Long.parseLong(call.group(3)));
                    made.add(call.group(1));
                }
            }
        }
        for (String name : Calls.NAMES) {
            CHECK.holds("the run shows " + name, made.contains(name));
        }
    }

    private static long answer(GiftOffice office, String name, String given) throws ReflectiveOperationException {
        String[] texts = given.isEmpty() ? new String[0] : given.split(", ");
        for (Method m : GiftOffice.class.getMethods()) {
            if (m.getName().equals(name) && m.getParameterCount() == texts.length) {
                Object[] values = new Object[texts.length];
                for (int i = 0; i < texts.length; i++) {
                    long value = Long.decode(texts[i].replaceAll("L$", ""));
                    if (m.getParameterTypes()[i] == int.class) {
                        values[i] = (int) value;
                    } else {
                        values[i] = value;
                    }
                }
                return ((Number) m.invoke(office, values)).longValue();
            }
        }
        throw new NoSuchMethodException(name);
    }

    private static void tests(String readme) throws IOException {
        List<String> names;
        try (Stream<Path> files = Files.list(TESTS)) {
            names = files.map(f -> f.getFileName().toString().replace(".java", ""))
                    .filter(n -> n.endsWith("Test")).collect(Collectors.toList());
        }
        for (String name : names) {
            CHECK.holds("a row for " + name, readme.contains("| `" + name + "` |"));
        }
        CHECK.holds("how the tests are run", readme.contains("\n.ci/run\n"));
    }
}
