import java.io.IOException;
import java.lang.reflect.InvocationTargetException;
import java.lang.reflect.Method;
import java.lang.reflect.Modifier;
import java.nio.charset.StandardCharsets;
import java.nio.file.Files;
import java.nio.file.Path;
import java.util.HashMap;
import java.util.List;
import java.util.Map;
import java.util.regex.Matcher;
import java.util.regex.Pattern;

/** Plays the examples of README.md: a line is a call of the town, the number behind its // is what it must answer. */
public final class ReadmeTest {
    private static final Pattern CALL = Pattern.compile(
        "(?:int (\\w+) = )?town\\.(\\w+)\\((.*)\\);\\s+// (-?\\d+)(?::.*)?");
    private static final Pattern ROW = Pattern.compile("\\| `(\\w+)\\((.*?)\\)` \\|.*");

    public static void main(String[] args) throws IOException, IllegalAccessException {
        List<String> lines = Files.readAllLines(Path.of("README.md"), StandardCharsets.UTF_8);
        Due.holds("README.md has examples", examples(lines) > 0);
        Due.holds("README.md says how to run the tests", String.join("\n", lines).contains(".ci/run"));
        theTableHasEachCall(lines);
        Due.end();
    }

    private static int examples(List<String> lines) throws IllegalAccessException {
        TownClocks town = null;
        Map<String, Integer> names = new HashMap<>();
        boolean inside = false;
        int calls = 0;
        for (String line : lines) {
            if (line.startsWith("```")) {
                inside = line.equals("```java");
            } else if (inside && line.equals("TownClocks town = new TownClocks();")) {
                town = new TownClocks();
                names.clear();
            } else if (inside) {
                play(town, line, names);
                calls++;
            }
        }
        return calls;
    }

    private static void play(TownClocks town, String line, Map<String, Integer> names) throws IllegalAccessException {
        Matcher m = CALL.matcher(line);
        boolean isCall = town != null && m.matches();
        Due.holds("README.md: a call with its answer: " + line, isCall);
        if (!isCall) {
            return;
        }
        long answer = answer(town, m.group(2), m.group(3), names);
        Due.due("README.md: " + line, answer, Long.parseLong(m.group(4)));
        if (m.group(1) != null) {
            names.put(m.group(1), (int) answer);
        }
    }

    private static long answer(TownClocks town, String call, String list, Map<String, Integer> names)
            throws IllegalAccessException {
        String[] words = list.isEmpty() ? new String[0] : list.split(", ");
        for (Method method : TownClocks.class.getDeclaredMethods()) {
            if (isOfTheFace(method) && method.getName().equals(call) && method.getParameterCount() == words.length) {
                return invoke(town, method, words, names);
            }
        }
        Due.holds("README.md: there is a call " + call, false);
        return Long.MIN_VALUE;
    }

    private static long invoke(TownClocks town, Method method, String[] words, Map<String, Integer> names)
            throws IllegalAccessException {
        Object[] numbers = new Object[words.length];
        for (int i = 0; i < words.length; i++) {
            long n = number(words[i], names);
            if (method.getParameterTypes()[i] == long.class) {
                numbers[i] = n;
            } else {
                numbers[i] = (int) n;
            }
        }
        try {
            return ((Number) method.invoke(town, numbers)).longValue();
        } catch (InvocationTargetException e) {
            Due.holds("README.md: " + method.getName() + " threw " + e.getCause(), false);
            return Long.MIN_VALUE;
        }
    }

    private static long number(String word, Map<String, Integer> names) {
        if (word.equals("TownClocks.NONE")) {
            return TownClocks.NONE;
        }
        if (word.matches("[a-z]+")) {
            Due.holds("README.md: " + word + " has a number", names.containsKey(word));
            return names.getOrDefault(word, 0);
        }
        return Long.decode(word.replace("L", ""));
    }

    private static void theTableHasEachCall(List<String> lines) {
        Map<String, Integer> rows = new HashMap<>();
        for (String line : lines) {
            Matcher m = ROW.matcher(line);
            if (m.matches()) {
                rows.put(m.group(1), m.group(2).isEmpty() ? 0 : m.group(2).split(", ").length);
            }
        }
        int calls = 0;
        for (Method method : TownClocks.class.getDeclaredMethods()) {
            if (isOfTheFace(method)) {
                calls++;
                Due.due("README.md: parameters of " + method.getName(), rows.getOrDefault(method.getName(), -1),
                    method.getParameterCount());
            }
        }
        Due.due("README.md: no calls but those of the face", rows.size(), calls);
    }

    private static boolean isOfTheFace(Method method) {
        return Modifier.isPublic(method.getModifiers());
    }
}
