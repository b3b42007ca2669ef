import java.io.IOException;
import java.nio.file.Files;
import java.nio.file.Path;
import java.util.Set;
import java.util.TreeSet;
import java.util.regex.Matcher;
import java.util.regex.Pattern;

/** The examples of README.md, which are one run of calls, each with its answer behind it. */
public final class ReadmeTest {
    private static final Pattern EXAMPLE = Pattern.compile("cutter\\.(\\w+)\\((.*)\\);\\s+// (-?\\d+)(:.*)?");

    private static int[] arguments(String written) {
        if (written.isEmpty()) {
            return new int[0];
        }
        String[] parts = written.split(", ");
        int[] arguments = new int[parts.length];
        for (int i = 0; i < parts.length; i++) {
            boolean isCharacter = parts[i].startsWith("'");
            arguments[i] = isCharacter ? parts[i].charAt(1) : Integer.parseInt(parts[i]);
        }
        return arguments;
    }

    private static Set<String> callsOfTheClass() {
        Set<String> names = new TreeSet<>();
        for (java.lang.reflect.Method method : GeodesicCutter.class.getMethods()) {
            if (method.getDeclaringClass() == GeodesicCutter.class) {
                names.add(method.getName());
            }
        }
        return names;
    }

    public static void main(String[] args) throws IOException {
        GeodesicCutter cutter = new GeodesicCutter();
        Set<String> shown = new TreeSet<>();
        for (String line : Files.readAllLines(Path.of("README.md"))) {
            if (!line.startsWith("cutter.")) {
                continue;
            }
            Matcher example = EXAMPLE.matcher(line);
            if (!example.matches()) {
                Check.fail("README.md does not tell the answer of " + line);
                continue;
            }
            shown.add(example.group(1));
            int answer = Calls.ask(cutter, example.group(1), arguments(example.group(2)));
            Check.due(line, answer, Integer.parseInt(example.group(3)));
        }
        if (!shown.equals(callsOfTheClass())) {
            Check.fail("README.md shows the calls " + shown + " of " + callsOfTheClass());
        }
        Check.end();
    }
}
