import java.io.IOException;
import java.lang.reflect.Method;
import java.nio.file.Files;
import java.nio.file.Path;
import java.util.regex.Matcher;
import java.util.regex.Pattern;

/** The calls of README's example answer what stands behind them, and README names every call. */
public final class ReadmeTest {
    private static final Pattern CALL =
            Pattern.compile("shop\\.(\\w+)\\(([-\\d, ]*)\\);\\s*// (-?\\d+):.*");
    private static final Pattern TEXT = Pattern.compile("String text = \"(.*)\";");
    private static final int LEAST_CALLS = 15;

    private final Checks checks = new Checks();
    private final OrderLevels shop = new OrderLevels();
    private int calls;

    public static void main(String[] args) throws IOException, ReflectiveOperationException {
        new ReadmeTest().run(Files.readString(Path.of("README.md")));
    }

    private void run(String readme) throws ReflectiveOperationException {
        for (String line : readme.lines().map(String::strip).toList()) {
            Matcher call = CALL.matcher(line);
            Matcher text = TEXT.matcher(line);
            if (call.matches()) {
                calls++;
                checks.due("README: " + line, answer(call.group(1), call.group(2)),
                        Long.parseLong(call.group(3)));
            } else if (text.matches()) {
                checks.write(shop, text.group(1));
            }
        }
        checks.due("README has too few calls", calls < LEAST_CALLS ? calls : 0, 0);
        for (Method method : OrderLevels.class.getDeclaredMethods()) {
            if (java.lang.reflect.Modifier.isPublic(method.getModifiers())) {
                checks.due("README names " + method.getName(),
                        readme.contains("`" + method.getName() + "`") ? 1 : 0, 1);
            }
        }
        checks.end("README");
    }

    private long answer(String name, String list) throws ReflectiveOperationException {
        String[] words = list.isBlank() ? new String[0] : list.split(", ");
        Class<?>[] kinds = new Class<?>[words.length];
        Object[] numbers = new Object[words.length];
        for (int i = 0; i < words.length; i++) {
            kinds[i] = int.class;
            numbers[i] = Integer.valueOf(words[i]);
        }
        Object told = OrderLevels.class.getMethod(name, kinds).invoke(shop, numbers);
        return ((Number) told).longValue();
    }
}
