import java.io.IOException;
import java.lang.reflect.InvocationTargetException;
import java.lang.reflect.Method;
import java.lang.reflect.Modifier;
import java.nio.file.Files;
import java.nio.file.Path;
import java.util.List;
import java.util.regex.Matcher;
import java.util.regex.Pattern;

/** README.md: each call of its example answers what stands behind it, and every call is named. */
public final class ReadmeTest {
    private static final Check CHECK = new Check();
    private static final Pattern TOLD = Pattern.compile("tell\\(x, \"([^\"]*)\"\\);.*");
    private static final Pattern CALL =
            Pattern.compile("x\\.(\\w+)\\(([-0-9, ]*)\\); *// (-?\\d+)(?:, ROW ([-0-9 ]+))?(?::.*)?");

    private ReadmeTest() {
    }

    public static void main(String[] args) throws IOException, ReflectiveOperationException {
        List<String> lines = Files.readAllLines(Path.of("README.md"));
        example(lines);
        everyCallIsNamed(String.join("\n", lines));
        CHECK.close("ReadmeTest");
    }

    private static void example(List<String> lines) throws ReflectiveOperationException {
        int begin = lines.indexOf("RoadsByCows x = new RoadsByCows();");
        CHECK.due("README.md has an example", begin >= 0, true);
        RoadsByCows x = new RoadsByCows();
        int calls = 0;
        for (int i = begin + 1; begin >= 0 && i < lines.size() && !lines.get(i).equals("```"); i++) {
            String line = lines.get(i);
            Matcher told = TOLD.matcher(line);
            Matcher call = CALL.matcher(line);
            if (told.matches()) {
                Check.tell(x, told.group(1));
            } else if (call.matches()) {
                CHECK.due(line, answer(x, call.group(1), call.group(2)), Long.parseLong(call.group(3)));
                row(x, line, call.group(4));
                calls++;
            } else {
                CHECK.due("this line can be run: " + line, false, true);
            }
        }
        CHECK.due("README.md has calls to run", calls > 10, true);
    }

    private static void row(RoadsByCows x, String line, String numbers) {
        if (numbers == null) {
            return;
        }
        String[] parts = numbers.trim().split(" ");
        long[] due = new long[parts.length];
        for (int i = 0; i < parts.length; i++) {
            due[i] = Long.parseLong(parts[i]);
        }
        CHECK.dueRow(line, x, due);
    }

    private static long answer(RoadsByCows x, String name, String words) throws ReflectiveOperationException {
        String[] parts = words.isEmpty() ? new String[0] : words.split(", ");
        Class<?>[] kinds = new Class<?>[parts.length];
        Object[] arguments = new Object[parts.length];
        for (int i = 0; i < parts.length; i++) {
            kinds[i] = int.class;
            arguments[i] = Integer.parseInt(parts[i]);
        }
        try {
            return ((Number) RoadsByCows.class.getMethod(name, kinds).invoke(x, arguments)).longValue();
        } catch (InvocationTargetException e) {
            return Check.THROWN;
        }
    }

    private static void everyCallIsNamed(String page) {
        for (Method method : RoadsByCows.class.getDeclaredMethods()) {
            if (Modifier.isPublic(method.getModifiers())) {
                CHECK.due("README.md names " + method.getName(), page.contains('`' + method.getName() + '('), true);
            }
        }
    }
}
