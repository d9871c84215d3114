import java.lang.reflect.Method;
import java.nio.file.Files;
import java.nio.file.Path;
import java.util.Arrays;
import java.util.HashMap;
import java.util.List;
import java.util.Map;
import java.util.regex.Matcher;
import java.util.regex.Pattern;

/** Does the calls of README.md's example; where a comment begins with a number, the call has to answer it. */
final class ReadmeTest {
    private static final Pattern CALL =
        Pattern.compile("(?:int (\\w+) = )?machine\\.(\\w+)\\(([^)]*)\\);\\s*(?://\\s*(-?\\d+)?.*)?");

    private final TieredMachine machine = new TieredMachine();
    private final Map<String, Integer> named = new HashMap<>();

    public static void main(String[] args) throws Exception {
        List<String> lines = Files.readAllLines(Path.of("README.md"));
        ReadmeTest test = new ReadmeTest();
        int first = lines.indexOf("```java") + 1;
        Check.due("there is an example", first > 0, true);
        for (String line : lines.subList(first, lines.size())) {
            if (line.equals("```")) {
                break;
            }
            test.go(line);
        }
        everyCallIsNamed(String.join("\n", lines));
        Check.end();
    }

    private void go(String line) throws Exception {
        if (line.equals("TieredMachine machine = new TieredMachine();")) {
            return;
        }
        Matcher parts = CALL.matcher(line);
        Check.due("a call: " + line, parts.matches(), true);
        Object[] arguments = numbers(parts.group(3));
        Class<?>[] types = new Class<?>[arguments.length];
        Arrays.fill(types, int.class);
        Object answer = TieredMachine.class.getMethod(parts.group(2), types).invoke(machine, arguments);
        if (parts.group(1) != null) {
            named.put(parts.group(1), (Integer) answer);
        }
        if (parts.group(4) != null) {
            Check.due(line, String.valueOf(answer), parts.group(4));
        }
    }

    private Object[] numbers(String list) {
        if (list.isEmpty()) {
            return new Object[0];
        }
        String[] words = list.split(", ");
        Object[] values = new Object[words.length];
        for (int i = 0; i < words.length; i++) {
            values[i] = named.containsKey(words[i]) ? named.get(words[i]) : Integer.valueOf(words[i]);
        }
        return values;
    }

    private static void everyCallIsNamed(String readme) {
        for (Method m : TieredMachine.class.getMethods()) {
            if (m.getDeclaringClass() == TieredMachine.class) {
                Check.due("README.md names " + m.getName(), readme.contains("`" + m.getName() + "("), true);
            }
        }
    }
}
