import java.lang.reflect.Method;
import java.nio.file.Files;
import java.nio.file.Path;
import java.util.List;
import java.util.regex.Matcher;
import java.util.regex.Pattern;

/** Makes the calls that README.md shows, on one object, and holds it to the answers that stand behind them. */
public final class ReadmeTest {
    private static final Due DUE = new Due("ReadmeTest");
    private static final Pattern CALL = Pattern.compile("x\\.(\\w+)\\((.*)\\); +// (-?\\d+|true|false)(:.*)?");

    private ReadmeTest() {
    }

    public static void main(String[] args) throws Exception {
        MockParcels x = new MockParcels();
        String text = Files.readString(readme());
        int calls = 0;
        for (String line : text.split("\n")) {
            if (!line.startsWith("x.")) {
                continue;
            }
            Matcher m = CALL.matcher(line);
            DUE.is("has its answer: " + line, m.matches(), true);
            if (m.matches()) {
                DUE.is(line, call(x, m.group(1), m.group(2)), number(m.group(3)));
                calls++;
            }
        }
        DUE.is("README.md shows calls", calls > 0, true);
        for (Method one : MockParcels.class.getDeclaredMethods()) {
            if (java.lang.reflect.Modifier.isPublic(one.getModifiers())) {
                DUE.is("README.md tells of " + one.getName(), text.contains("`" + one.getName() + "`"), true);
            }
        }
        everyTestStandsThere(text);
        DUE.end();
    }

    /** The source stands in src/main/java of the project's folder. */
    private static Path readme() {
        Path source = Path.of(System.getProperty("source", "src/main/java/MockParcels.java")).toAbsolutePath();
        return source.getParent().getParent().getParent().getParent().resolve("README.md");
    }

    private static void everyTestStandsThere(String text) throws Exception {
        try (var files = Files.list(readme().resolveSibling("src").resolve("test").resolve("java"))) {
            List<String> names = files.map(f -> f.getFileName().toString().replace(".java", "")).toList();
            for (String name : names) {
                DUE.is("README.md tells of " + name, text.contains("`" + name + "`"), true);
            }
        }
    }

    private static long call(MockParcels x, String name, String written) throws Exception {
        for (Method m : MockParcels.class.getDeclaredMethods()) {
            if (m.getName().equals(name)) {
                String[] parts = written.isEmpty() ? new String[0] : written.split(", ");
                Object[] given = new Object[parts.length];
                for (int i = 0; i < parts.length; i++) {
                    given[i] = m.getParameterTypes()[i] == boolean.class ? (Object) Boolean.valueOf(parts[i])
                        : (Object) Integer.decode(parts[i]);
                }
                return number(m.invoke(x, given).toString());
            }
        }
        throw new IllegalArgumentException("no such call: " + name);
    }

    private static long number(String answer) {
        if (answer.equals("true") || answer.equals("false")) {
            return answer.equals("true") ? 1 : 0;
        }
        return Long.parseLong(answer);
    }
}
