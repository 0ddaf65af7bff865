import java.io.IOException;
import java.lang.reflect.Method;
import java.lang.reflect.Modifier;
import java.nio.file.Files;
import java.nio.file.Path;
import java.util.HashMap;
import java.util.Map;
import java.util.Set;
import java.util.TreeSet;
import java.util.regex.Matcher;
import java.util.regex.Pattern;

/** The examples of README.md: each call in them answers what stands behind it, and each kind of call has one. */
public final class ReadmeTest {
    private static final Pattern CALL = Pattern.compile("x\\.(\\w+)\\(([^)]*)\\);\\s*// (-?\\d+|true|false)(:? .*)?");
    private static final Pattern TEXT = Pattern.compile("Due\\.tell\\(x, \"([^\"]*)\"\\);");
    private static final String NEW = "WheelStore x = new WheelStore();";
    /** Of these the README tells no example: they are called by Due.tell, or are as one that it tells. */
    private static final Set<String> WITHOUT = Set.of("feed", "end", "gap", "next", "fewest");

    private static final Map<String, Method> face = new HashMap<>();
    private static final Set<String> called = new TreeSet<>(WITHOUT);
    private static WheelStore x = new WheelStore();

    public static void main(String[] args) throws IOException, ReflectiveOperationException {
        for (Method method : WheelStore.class.getDeclaredMethods()) {
            if (Modifier.isPublic(method.getModifiers())) {
                face.put(method.getName(), method);
            }
        }
        boolean inside = false;
        for (String line : Files.readAllLines(Path.of("README.md"))) {
            if (line.startsWith("```")) {
                inside = line.equals("```java");
            } else if (inside) {
                run(line);
            }
        }
        Due.due("calls with an example", called.size(), face.size());
        Due.close();
    }

    private static void run(String line) throws ReflectiveOperationException {
        Matcher text = TEXT.matcher(line);
        Matcher call = CALL.matcher(line);
        if (line.equals(NEW)) {
            x = new WheelStore();
        } else if (text.matches()) {
            Due.tell(x, text.group(1));
        } else if (call.matches() && face.containsKey(call.group(1))) {
            called.add(call.group(1));
            Due.due("README.md: " + line, answer(face.get(call.group(1)), call.group(2)), number(call.group(3)));
        } else {
            Due.due("README.md, a line that is no call: " + line, false, true);
        }
    }

    private static long answer(Method method, String arguments) throws ReflectiveOperationException {
        String[] told = arguments.isEmpty() ? new String[0] : arguments.split(", ");
        Object[] values = new Object[told.length];
        for (int i = 0; i < told.length; i++) {
            values[i] = told[i].equals("true") || told[i].equals("false") ? (Object) told[i].equals("true")
                : (Object) Integer.parseInt(told[i]);
        }
        return number(method.invoke(x, values).toString());
    }

    private static long number(String answer) {
        if (answer.equals("true") || answer.equals("false")) {
            return answer.equals("true") ? 1 : 0;
        }
        return Long.parseLong(answer);
    }
}
