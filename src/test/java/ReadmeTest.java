import java.io.IOException;
import java.lang.reflect.InvocationTargetException;
import java.lang.reflect.Method;
import java.lang.reflect.Modifier;
import java.nio.file.Files;
import java.nio.file.Path;
import java.util.TreeSet;
import java.util.regex.Matcher;
import java.util.regex.Pattern;

/** Each call that README.md shows gives the answer that is told there, and each call of the face is shown. */
public final class ReadmeTest {
    private static final Check CHECK = new Check();
    private static final Pattern NEW = Pattern.compile("TagMachine x = new TagMachine\\((\\d+), (\\d+)\\);.*");
    private static final Pattern CALL =
            Pattern.compile("x\\.(\\w+)\\(([^)]*)\\); *// (?:answers|throws) ([^ :]+):.*");

    public static void main(String[] args) throws IOException {
        TreeSet<String> shown = new TreeSet<>();
        TagMachine x = null;
        boolean isCode = false;
        for (String line : Files.readAllLines(Path.of("README.md"))) {
            if (line.startsWith("```")) {
                isCode = line.equals("```java");
                continue;
            }
            if (!isCode) {
                continue;
            }
            Matcher made = NEW.matcher(line);
            Matcher called = CALL.matcher(line);
            if (made.matches()) {
                x = new TagMachine(number(made.group(1)), number(made.group(2)));
            } else if (x != null && called.matches()) {
                shown.add(called.group(1));
                String got = answer(x, called.group(1), called.group(2).split(", "));
                CHECK.same(line, got, asShown(called.group(3)));
            } else {
                CHECK.fail("README.md shows a line that is no call with its answer: " + line);
            }
        }
        CHECK.same("calls that README.md shows", shown.toString(), face().toString());
        CHECK.end();
    }

    private static TreeSet<String> face() {
        TreeSet<String> names = new TreeSet<>();
        for (Method method : TagMachine.class.getDeclaredMethods()) {
            if (Modifier.isPublic(method.getModifiers())) {
                names.add(method.getName());
            }
        }
        return names;
    }

    private static String answer(TagMachine x, String name, String[] arguments) {
        Object[] numbers = new Object[arguments.length];
        Class<?>[] types = new Class<?>[arguments.length];
        for (int i = 0; i < arguments.length; i++) {
            numbers[i] = number(arguments[i]);
            types[i] = int.class;
        }
        try {
            return TagMachine.class.getMethod(name, types).invoke(x, numbers).toString();
        } catch (InvocationTargetException thrown) {
            return thrown.getCause().getClass().getSimpleName();
        } catch (ReflectiveOperationException missing) {
            return missing.toString();
        }
    }

    private static int number(String text) {
        return Long.decode(text).intValue();
    }

    private static String asShown(String text) {
        return text.matches("[0-9].*") ? Integer.toString(number(text)) : text;
    }
}
