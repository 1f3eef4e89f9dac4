import java.io.IOException;
import java.lang.reflect.Method;
import java.lang.reflect.Modifier;
import java.nio.file.Files;
import java.nio.file.Path;
import java.util.HashMap;
import java.util.Map;
import java.util.regex.Matcher;
import java.util.regex.Pattern;

/** README.md: its example answers what stands behind the arrows, and no call of the face is left untold. */
public final class ReadmeTest {
    private static final Pattern ROW = Pattern.compile("(?m)^(?:int (\\w+) = )?x\\.(\\w+)\\(([^)]*)\\); *// -> (-?\\d+)");
    private static final Pattern ASKED = Pattern.compile("(?m)^(?:int \\w+ = )?x\\.");
    private static final Due due = new Due();

    public static void main(String[] args) throws ReflectiveOperationException, IOException {
        String text = Files.readString(Path.of("README.md"));
        everyCallIsTold(text);
        runExample(text);
        due.end();
    }

    private static void everyCallIsTold(String text) {
        for (Method m : DeckBalance.class.getDeclaredMethods()) {
            if (Modifier.isPublic(m.getModifiers())) {
                Matcher row = Pattern.compile("(?m)^\\| `" + m.getName() + "\\(([^)]*)\\)` \\|").matcher(text);
                due.is("README.md tells " + m.getName(), row.find() ? countOf(row.group(1)) : -1, m.getParameterCount());
            }
        }
    }

    private static int countOf(String parameters) {
        return parameters.isEmpty() ? 0 : parameters.split(",").length;
    }

    private static void runExample(String text) throws ReflectiveOperationException {
        DeckBalance x = new DeckBalance();
        Map<String, Integer> named = new HashMap<>();
        Matcher row = ROW.matcher(text);
        int rows = 0;
        while (row.find()) {
            rows++;
            long got = answer(x, row.group(2), row.group(3), named);
            due.is("README.md: " + row.group(), got, Long.parseLong(row.group(4)));
            if (row.group(1) != null) {
                named.put(row.group(1), (int) got);
            }
        }
        due.is("README.md: every call of the example has its answer", rows, ASKED.matcher(text).results().count());
        due.is("README.md has an example", rows > 0 ? 1 : 0, 1);
    }

    private static long answer(DeckBalance x, String name, String list, Map<String, Integer> named)
            throws ReflectiveOperationException {
        int count = countOf(list);
        Class<?>[] types = new Class<?>[count];
        Object[] values = new Object[count];
        for (int i = 0; i < count; i++) {
            String word = list.split(",")[i].trim();
            types[i] = int.class;
            values[i] = named.containsKey(word) ? named.get(word) : Integer.valueOf(word);
        }
        return ((Number) DeckBalance.class.getMethod(name, types).invoke(x, values)).longValue();
    }
}
