import java.io.IOException;
import java.lang.reflect.InvocationTargetException;
import java.lang.reflect.Method;
import java.lang.reflect.Modifier;
import java.nio.file.Files;
import java.nio.file.Path;
import java.util.Arrays;
import java.util.List;
import java.util.regex.Matcher;
import java.util.regex.Pattern;

/**
 * The example in README.md: each call answers, or throws, what is written first in the comment behind it. And the page
 * names each call of the face.
 */
public final class ReadmeTest {
    private static final Path README = Path.of("README.md");
    private static final int CALLS = 14;
    private static final Pattern CALL = Pattern.compile("house\\.(\\w+)\\(([^)]*)\\);\\s+// (-?\\w+),?.*");

    private ReadmeTest() {
    }

    public static void main(String[] arguments) throws IOException {
        Checks checks = new Checks();
        ValveRoom house = new ValveRoom();
        int calls = 0;
        List<String> lines = Files.readAllLines(README);
        for (String line : lines) {
            Matcher call = CALL.matcher(line);
            if (call.matches()) {
                calls++;
                checks.same(line, answer(house, call.group(1), call.group(2)), call.group(3));
            }
        }
        checks.same("calls of the example", calls, CALLS);
        checks.same("what it wrote", Checks.output(house, house.writeRooms()), "a:189>200/55");
        namesEachCall(checks, String.join("\n", lines));
        checks.end();
    }

    private static void namesEachCall(Checks checks, String page) {
        for (Method one : ValveRoom.class.getDeclaredMethods()) {
            if (Modifier.isPublic(one.getModifiers())) {
                checks.that("README.md names " + one.getName(), page.contains("`" + one.getName() + "`"));
            }
        }
    }

    private static String answer(ValveRoom house, String name, String list) {
        Object[] numbers = list.isEmpty() ? new Object[0]
                : Arrays.stream(list.split(",")).map(one -> Integer.decode(one.trim())).toArray();
        try {
            return String.valueOf(methodNamed(name).invoke(house, numbers));
        } catch (InvocationTargetException thrown) {
            return thrown.getCause().getClass().getSimpleName();
        } catch (IllegalAccessException e) {
            throw new AssertionError(e);
        }
    }

    private static Method methodNamed(String name) {
        return Arrays.stream(ValveRoom.class.getMethods()).filter(one -> one.getName().equals(name)).findFirst()
                .orElseThrow();
    }
}
