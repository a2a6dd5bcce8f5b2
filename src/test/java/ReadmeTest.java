import java.lang.reflect.Method;
import java.lang.reflect.Modifier;
import java.nio.file.Files;
import java.nio.file.Path;
import java.util.HashMap;
import java.util.List;
import java.util.Map;
import java.util.TreeSet;
import java.util.regex.Matcher;
import java.util.regex.Pattern;

/** The calls that README.md tells answer what it tells, and none of the class's calls is left out there. */
public final class ReadmeTest {
    private static final Pattern CALL = Pattern.compile("x\\.(\\w+)\\((.*)\\); +// (-?\\d+)(: .*)?");
    private static final Pattern PROMISED = Pattern.compile("    public int (\\w+)\\(.*");

    private ReadmeTest() {
    }

    public static void main(String[] args) throws Exception {
        Path source = Path.of(System.getProperty("lines.source"));
        Path readme = source.resolve("../../../../README.md").normalize();
        Map<String, Method> methods = new HashMap<>();
        for (Method m : LinesPromised.class.getDeclaredMethods()) {
            if (Modifier.isPublic(m.getModifiers())) methods.put(m.getName(), m);
        }
        TreeSet<String> untold = new TreeSet<>();
        for (String line : Files.readAllLines(Path.of(System.getProperty("lines.shared"), "DOC.md"))) {
            Matcher face = PROMISED.matcher(line);
            if (face.matches()) untold.add(face.group(1));
        }
        Check.due("calls of the document's face", untold.size(), 49);
        callAll(Files.readAllLines(readme), methods, untold);
        Check.due("calls that README.md leaves out " + untold, untold.size(), 0);
        Check.end();
    }

    private static void callAll(List<String> lines, Map<String, Method> methods, TreeSet<String> untold)
            throws Exception {
        LinesPromised x = new LinesPromised();
        int calls = 0;
        for (String line : lines) {
            if (!line.startsWith("x.")) continue;
            Matcher call = CALL.matcher(line);
            boolean isCall = call.matches() && methods.containsKey(call.group(1));
            Check.holds("the line is a call with its answer: " + line, isCall);
            if (!isCall) continue;
            calls++;
            untold.remove(call.group(1));
            Method method = methods.get(call.group(1));
            Object got = method.invoke(x, numbers(call.group(2), method.getParameterTypes()));
            Check.due(line, (Integer) got, Integer.parseInt(call.group(3)));
        }
        Check.holds("the calls are fewer than an object is good for", calls <= 512);
    }

    private static Object[] numbers(String told, Class<?>[] sorts) {
        Object[] numbers = new Object[sorts.length];
        String[] words = told.isEmpty() ? new String[0] : told.split(", ");
        Check.due("numbers told in (" + told + ")", words.length, sorts.length);
        for (int i = 0; i < Math.min(words.length, sorts.length); i++) {
            if (sorts[i] == boolean.class) {
                numbers[i] = words[i].equals("true");
            } else if (sorts[i] == long.class) {
                numbers[i] = Long.decode(words[i].substring(0, words[i].length() - 1));
            } else {
                numbers[i] = Integer.decode(words[i]);
            }
        }
        return numbers;
    }
}
