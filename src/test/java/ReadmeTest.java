import java.lang.reflect.Method;
import java.nio.file.Files;
import java.nio.file.Path;
import java.util.Set;
import java.util.TreeSet;
import java.util.regex.Matcher;
import java.util.regex.Pattern;

/** README.md's example: each call there answers the number ahead of its comment, and every line is read. */
final class ReadmeTest {
    private static final Pattern CALL = Pattern.compile("x\\.(\\w+)\\(([^)]*)\\);\\s+// (-?\\d+): .+");

    private ReadmeTest() {
    }

    public static void main(String[] args) throws Exception {
        String readme = Files.readString(Path.of("README.md"));
        Matcher block = Pattern.compile("(?s)```java\n(.*?)```").matcher(readme);
        Due.due("there is an example", block.find());
        run(block.group(1).split("\n"));
        Due.due("and no other", !block.find());
        Due.end("ReadmeTest");
    }

    private static void run(String[] lines) throws Exception {
        NineLedges x = new NineLedges();
        Set<String> called = new TreeSet<>();
        Due.due("it makes an object", lines[0].equals("NineLedges x = new NineLedges();"));
        for (int i = 1; i < lines.length; i++) {
            Matcher call = CALL.matcher(lines[i]);
            if (call.matches()) {
                called.add(call.group(1));
                Due.due(lines[i], answer(x, call.group(1), call.group(2)), Integer.parseInt(call.group(3)));
            } else {
                Due.due("read: " + lines[i], lines[i].isEmpty() || lines[i].startsWith("// "));
            }
        }
        Due.due("most of the class is shown", called.size() >= 27);
    }

    private static int answer(NineLedges x, String name, String text) throws Exception {
        String[] parts = text.isEmpty() ? new String[0] : text.split(", ");
        for (Method m : NineLedges.class.getMethods()) {
            if (m.getName().equals(name) && m.getDeclaringClass() == NineLedges.class) {
                Object[] values = new Object[parts.length];
                for (int i = 0; i < parts.length; i++) {
                    values[i] = value(parts[i], m.getParameterTypes()[i]);
                }
                return (Integer) m.invoke(x, values);
            }
        }
        throw new AssertionError("no such method: " + name);
    }

    private static Object value(String text, Class<?> type) {
        if (type == long.class) {
            return Long.decode(text.replace("L", ""));
        }
        return Integer.decode(text);
    }
}
