import java.lang.reflect.Method;
import java.nio.file.Files;
import java.nio.file.Path;
import java.util.regex.Matcher;
import java.util.regex.Pattern;

/** The example of README.md: each of its calls answers the number that stands behind it. */
public final class ReadmeTest extends Due {
    private static final Pattern CALL = Pattern.compile("(?m)^x\\.(\\w+)\\(([^)]*)\\); *// (-?\\d+)");

    public static void main(String[] args) throws Exception {
        about("README.md");
        SmallerInTheShop x = new SmallerInTheShop();
        Matcher call = CALL.matcher(Files.readString(Path.of("README.md")));
        int calls = 0;
        while (call.find()) {
            due(call.group(), answer(x, call.group(1), call.group(2)), Long.parseLong(call.group(3)));
            calls++;
        }
        due("calls in the example", calls, 7);
        end();
    }

    private static long answer(SmallerInTheShop x, String name, String numbers) throws Exception {
        String[] told = numbers.isEmpty() ? new String[0] : numbers.split(", *");
        Class<?>[] types = new Class<?>[told.length];
        Object[] values = new Object[told.length];
        for (int i = 0; i < told.length; i++) {
            types[i] = int.class;
            values[i] = Integer.valueOf(told[i]);
        }
        Method method = SmallerInTheShop.class.getMethod(name, types);
        return ((Number) method.invoke(x, values)).longValue();
    }
}
