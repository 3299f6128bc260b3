import java.lang.reflect.Method;
import java.lang.reflect.Modifier;
import java.nio.file.Files;
import java.nio.file.Path;
import java.util.ArrayList;
import java.util.List;
import java.util.Map;
import java.util.Set;
import java.util.TreeMap;
import java.util.TreeSet;
import java.util.regex.Matcher;
import java.util.regex.Pattern;

// What README.md says that calls answer; each call is to be there once at least.
public final class ReadmeTest extends Checks {
    private static final Pattern CALL = Pattern.compile("g\\.(\\w+)\\(([-0-9, ]*)\\); +// (-?\\d+|[A-Z]+)\\b.*");
    private static final String MADE = "GridPolygons g = new GridPolygons();";

    private static List<String> examples() throws Exception {
        List<String> found = new ArrayList<>();
        boolean within = false;
        for (String line : Files.readAllLines(Path.of("README.md"))) {
            if (line.startsWith("```")) {
                within = line.equals("```java");
            } else if (within && !line.isBlank() && !line.equals(MADE)) {
                found.add(line);
            }
        }
        return found;
    }

    private static Map<String, Method> calls() {
        Map<String, Method> found = new TreeMap<>();
        for (Method m : GridPolygons.class.getDeclaredMethods()) {
            if (Modifier.isPublic(m.getModifiers())) {
                found.put(m.getName(), m);
            }
        }
        return found;
    }

    private static long answer(GridPolygons g, Method m, String arguments) throws Exception {
        String[] told = arguments.isEmpty() ? new String[0] : arguments.split(", ");
        Object[] numbers = new Object[told.length];
        for (int i = 0; i < told.length; i++) {
            numbers[i] = Integer.valueOf(told[i]);
        }
        return ((Number) m.invoke(g, numbers)).longValue();
    }

    private static long number(String told) throws Exception {
        char sign = told.charAt(0);
        return sign >= 'A' && sign <= 'Z' ? GridPolygons.class.getField(told).getInt(null) : Long.parseLong(told);
    }

    public static void main(String[] args) throws Exception {
        GridPolygons g = new GridPolygons();
        Map<String, Method> calls = calls();
        Set<String> missing = new TreeSet<>(calls.keySet());
        for (String line : examples()) {
            Matcher m = CALL.matcher(line);
            if (m.matches() && calls.containsKey(m.group(1))) {
                missing.remove(m.group(1));
                due(line, answer(g, calls.get(m.group(1)), m.group(2)), number(m.group(3)));
            } else {
                fault("README.md: no call with its answer: " + line);
            }
        }
        for (String call : missing) {
            fault("README.md: no example of " + call);
        }
        end("README.md tells what calls answer");
    }
}
