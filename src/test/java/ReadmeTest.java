import java.io.IOException;
import java.lang.reflect.Method;
import java.nio.file.Files;
import java.nio.file.Path;
import java.util.Arrays;
import java.util.regex.Matcher;
import java.util.regex.Pattern;

/** The example of README.md: each call there whose comment begins with a number answers that. */
public final class ReadmeTest {
    private static final Pattern TOWN = Pattern.compile("String said = \"([^\"]*)\";");
    private static final Pattern CALL = Pattern.compile("^x\\.(\\w+)\\(([-0-9, ]*)\\);\\s*// (-?[0-9]+)\\b.*");
    private static final int CALLS = 15;

    public static void main(String[] args) throws IOException, ReflectiveOperationException {
        Check check = new Check("ReadmeTest");
        String readme = Files.readString(Path.of("README.md"));
        Matcher town = TOWN.matcher(readme);
        check.due("the example has a town", town.find() ? 1 : 0, 1);
        AshGreetings x = new AshGreetings();
        Check.write(x, 0, town.group(1));
        int calls = 0;
        for (String line : readme.split("\n")) {
            Matcher call = CALL.matcher(line);
            if (call.matches()) {
                calls++;
                check.due(line, answer(x, call.group(1), call.group(2)), Long.parseLong(call.group(3)));
            }
        }
        check.due("calls of the example", calls, CALLS);
        check.end();
    }

    private static long answer(AshGreetings x, String name, String list) throws ReflectiveOperationException {
        Object[] values = Arrays.stream(list.split(",")).map(String::trim).filter(v -> !v.isEmpty())
            .map(Integer::valueOf).toArray();
        Class<?>[] types = new Class<?>[values.length];
        Arrays.fill(types, int.class);
        Method method = AshGreetings.class.getMethod(name, types);
        return ((Number) method.invoke(x, values)).longValue();
    }
}
