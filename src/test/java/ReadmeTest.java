import java.io.IOException;
import java.lang.reflect.InvocationTargetException;
import java.lang.reflect.Method;
import java.lang.reflect.Modifier;
import java.nio.file.Files;
import java.nio.file.Path;
import java.util.Set;
import java.util.TreeSet;
import java.util.regex.Matcher;
import java.util.regex.Pattern;

/**
 * The calls of README.md, in one run on one object, answer what stands behind them, and every call of the face is
 * shown there. The page is told by the property readme; without it, it is looked for where the test runs.
 */
public final class ReadmeTest {
    private static final Pattern TOLD = Pattern.compile("tell\\(roofs, \"([^\"]*)\"\\);");
    private static final Pattern CALL = Pattern.compile("roofs\\.(\\w+)\\(([^)]*)\\); +// (no answer|throws \\w+|[\\w-]+).*");
    private static int wrong = 0;

    public static void main(String[] args) throws IOException, IllegalAccessException {
        AgeRoofs roofs = new AgeRoofs();
        Set<String> shown = new TreeSet<>();
        boolean code = false;
        for (String line : Files.readAllLines(Path.of(System.getProperty("readme", "README.md")))) {
            code = line.startsWith("```") ? line.equals("```java") : code;
            Matcher told = TOLD.matcher(line);
            Matcher call = CALL.matcher(line);
            if (code && told.matches()) {
                Edges.put(roofs, told.group(1));
            } else if (code && call.matches()) {
                shown.add(call.group(1));
                check(line, answer(roofs, call.group(1), call.group(2).split(", *")), call.group(3));
            } else if (code && line.startsWith("roofs.")) {
                fail(line + ": does not tell what it answers");
            }
        }
        checkAllShown(shown);
        System.out.println(wrong == 0 ? "ReadmeTest: all answers are as due" : "ReadmeTest: " + wrong + " wrong");
        if (wrong != 0) {
            System.exit(1);
        }
    }

    private static void fail(String what) {
        wrong++;
        System.out.println(what);
    }

    private static void check(String line, String got, String want) {
        if (!got.equals(want)) {
            fail(line + ": answered " + got);
        }
    }

    private static void checkAllShown(Set<String> shown) {
        for (Method method : AgeRoofs.class.getDeclaredMethods()) {
            if (Modifier.isPublic(method.getModifiers()) && !shown.contains(method.getName())) {
                fail("README.md does not show " + method.getName());
            }
        }
    }

    private static String answer(AgeRoofs roofs, String name, String[] told) throws IllegalAccessException {
        for (Method method : AgeRoofs.class.getDeclaredMethods()) {
            if (Modifier.isPublic(method.getModifiers()) && method.getName().equals(name)) {
                return answer(roofs, method, told);
            }
        }
        return "no such call";
    }

    private static String answer(AgeRoofs roofs, Method method, String[] told) throws IllegalAccessException {
        Class<?>[] types = method.getParameterTypes();
        Object[] with = new Object[types.length];
        for (int k = 0; k < types.length; k++) {
            long value = Long.decode(told[k]);
            if (types[k] == long.class) {
                with[k] = value;
            } else {
                with[k] = (int) value;
            }
        }
        try {
            Object answer = method.invoke(roofs, with);
            return answer == null ? "no answer" : answer.toString();
        } catch (InvocationTargetException e) {
            return "throws " + e.getCause().getClass().getSimpleName();
        }
    }
}
