import java.io.IOException;
import java.lang.reflect.InvocationTargetException;
import java.lang.reflect.Method;
import java.nio.file.Files;
import java.nio.file.Path;
import java.util.regex.Matcher;
import java.util.regex.Pattern;

/** Makes the calls of README.md's example; each must answer, or throw, what the comment behind it begins with. */
public final class ReadmeTest {
    private static final Pattern CALL = Pattern.compile("works\\.(\\w+)\\((.*)\\);(?:\\s*// (-?\\w+).*)?");
    private static final String NEW = "CellWorks works = new CellWorks();";

    private static CellWorks works = null;
    private static int calls = 0;
    private static int wrong = 0;

    public static void main(String[] args) throws IOException {
        String readme = Files.readString(Path.of("README.md"));
        for (String line : example(readme).split("\n")) {
            if (line.equals(NEW)) {
                works = new CellWorks();
            } else {
                check(line);
            }
        }
        if (calls == 0) {
            wrong++;
            System.out.println("ReadmeTest: the example has no calls");
        }
        System.exit(wrong == 0 ? 0 : 1);
    }

    private static String example(String readme) {
        Matcher matcher = Pattern.compile("```java\n(.*?)\n```", Pattern.DOTALL).matcher(readme);
        return matcher.find() ? matcher.group(1) : "";
    }

    private static void check(String line) {
        Matcher matcher = CALL.matcher(line);
        if (!matcher.matches()) {
            wrong++;
            System.out.println("ReadmeTest: '" + line + "' is no call");
            return;
        }
        calls++;
        String due = matcher.group(3) == null ? "null" : matcher.group(3);
        String got = answer(matcher.group(1), matcher.group(2));
        if (!got.equals(due)) {
            wrong++;
            System.out.println("ReadmeTest: '" + line + "' answered " + got);
        }
    }

    private static String answer(String name, String arguments) {
        try {
            return String.valueOf(method(name).invoke(works, values(arguments)));
        } catch (InvocationTargetException e) {
            return e.getCause().getClass().getSimpleName();
        } catch (IllegalAccessException e) {
            return e.toString();
        }
    }

    private static Method method(String name) {
        for (Method method : CellWorks.class.getMethods()) {
            if (method.getName().equals(name)) {
                return method;
            }
        }
        throw new IllegalStateException("README.md calls " + name + ", which is no method");
    }

    private static Object[] values(String arguments) {
        if (arguments.isEmpty()) {
            return new Object[0];
        }
        String[] texts = arguments.split(", ");
        Object[] values = new Object[texts.length];
        for (int i = 0; i < texts.length; i++) {
            values[i] = Integer.decode(texts[i]);
        }
        return values;
    }
}
