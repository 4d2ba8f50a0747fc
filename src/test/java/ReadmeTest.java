import java.io.IOException;
import java.lang.reflect.Method;
import java.nio.file.Files;
import java.nio.file.Path;
import java.util.regex.Matcher;
import java.util.regex.Pattern;

/** The calls in README.md, one behind the other on one object, answer what stands behind them. */
public final class ReadmeTest {
    private static final Pattern CALL = Pattern.compile("^x\\.(\\w+)\\(([^)]*)\\); +// (-?\\d+)\\b.*$");

    private static Object argument(String text, Class<?> type) {
        long value = Long.decode(text);
        return type == long.class ? (Object) value : (Object) (int) value;
    }

    private static long answer(HookOver x, String name, String list) throws ReflectiveOperationException {
        String[] texts = list.isEmpty() ? new String[0] : list.split(", ");
        for (Method method : HookOver.class.getMethods()) {
            if (method.getName().equals(name) && method.getParameterCount() == texts.length) {
                Object[] args = new Object[texts.length];
                for (int i = 0; i < args.length; i++) {
                    args[i] = argument(texts[i], method.getParameterTypes()[i]);
                }
                return ((Number) method.invoke(x, args)).longValue();
            }
        }
        throw new NoSuchMethodException(name);
    }

    public static void main(String[] args) throws IOException, ReflectiveOperationException {
        HookOver x = new HookOver();
        int asked = 0;
        int wrong = 0;
        for (String line : Files.readAllLines(Path.of("README.md"))) {
            if (!line.startsWith("x.")) {
                continue;
            }
            Matcher call = CALL.matcher(line);
            if (!call.matches()) {
                wrong++;
                System.out.println("no answer stands behind: " + line);
                continue;
            }
            asked++;
            long got = answer(x, call.group(1), call.group(2));
            if (got != Long.parseLong(call.group(3))) {
                wrong++;
                System.out.println(line + " answered " + got);
            }
        }
        if (asked == 0) {
            wrong++;
            System.out.println("README.md has no calls");
        }
        System.out.println(wrong == 0 ? "all " + asked + " answers are as README.md says" : wrong + " are not");
        if (wrong != 0) {
            System.exit(1);
        }
    }
}
