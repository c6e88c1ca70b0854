import java.io.IOException;
import java.lang.reflect.Method;
import java.lang.reflect.Modifier;
import java.nio.file.Files;
import java.nio.file.Path;
import java.util.regex.Matcher;
import java.util.regex.Pattern;

/** README.md tells the truth: its example answers what stands behind each call, and its table names every call. */
public final class ReadmeTest extends Check {
    private static final Pattern CALL = Pattern.compile("x\\.(\\w+)\\(([^)]*)\\);\\s*// (-?\\d+)\\b.*");

    private static int number(String written) {
        if (written.startsWith("'")) return written.charAt(1);
        return Integer.decode(written);
    }

    private static long answer(BothEnds x, String name, String written) throws ReflectiveOperationException {
        String[] each = written.isEmpty() ? new String[0] : written.split(", ");
        Class<?>[] types = new Class<?>[each.length];
        Object[] arguments = new Object[each.length];
        for (int i = 0; i < each.length; i++) {
            types[i] = int.class;
            arguments[i] = number(each[i]);
        }
        return ((Number) BothEnds.class.getMethod(name, types).invoke(x, arguments)).longValue();
    }

    private static void example(String readme) throws ReflectiveOperationException {
        String code = readme.substring(readme.indexOf("```java\n") + 8);
        BothEnds x = new BothEnds();
        int calls = 0;
        for (String line : code.substring(0, code.indexOf("```")).split("\n")) {
            Matcher call = CALL.matcher(line);
            if (!call.matches()) {
                same("a line of the example", line, "BothEnds x = new BothEnds();");
                continue;
            }
            calls++;
            due("README " + line, answer(x, call.group(1), call.group(2)), Long.parseLong(call.group(3)));
        }
        due("the example has calls", calls > 0, true);
    }

    private static void table(String readme) {
        for (Method m : BothEnds.class.getDeclaredMethods()) {
            if (!Modifier.isPublic(m.getModifiers())) continue;
            due("README's table has " + m.getName(), Pattern.compile("\\|.*`" + m.getName() + "`.*\\|").matcher(readme).find(), true);
        }
    }

    private static void tests(String readme) throws IOException {
        try (var files = Files.list(Path.of("src/test/java"))) {
            files.map(f -> f.getFileName().toString()).filter(f -> f.endsWith("Test.java")).forEach(f ->
                    due("README names " + f, readme.contains("`" + f.replace(".java", "") + "`"), true));
        }
    }

    public static void main(String[] args) throws IOException, ReflectiveOperationException {
        String readme = Files.readString(Path.of("README.md"));
        example(readme);
        table(readme);
        tests(readme);
        end("ReadmeTest");
    }
}
