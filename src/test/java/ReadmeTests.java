import java.io.IOException;
import java.lang.reflect.Method;
import java.nio.charset.StandardCharsets;
import java.nio.file.Files;
import java.nio.file.Path;
import java.util.regex.Matcher;
import java.util.regex.Pattern;

/** What README.md says of the class: its calls are made in their order, and must answer what stands beside them. */
public final class ReadmeTests {
    private static final Pattern CALL = Pattern.compile("(?m)^card\\.(\\w+)\\(([^)]*)\\); +// (-?\\d+):");
    private static final Pattern ANY_CALL = Pattern.compile("(?m)^card\\.");
    private static final Pattern CONSTANT = Pattern.compile("(?m)^\\| `(\\w+)` \\| (-?\\d+) \\|");

    private ReadmeTests() {
    }

    public static void main(String[] args) throws IOException, ReflectiveOperationException {
        String text = Files.readString(Path.of("README.md"), StandardCharsets.US_ASCII);
        calls(text);
        constants(text);
        Due.end();
    }

    private static void calls(String text) throws ReflectiveOperationException {
        Due.part("the calls of README.md");
        CoalescedCalls card = new CoalescedCalls();
        long made = 0;
        Matcher line = CALL.matcher(text);
        while (line.find()) {
            made++;
            String call = line.group(1) + "(" + line.group(2) + ")";
            Due.is(call, answer(card, line.group(1), line.group(2)), Long.parseLong(line.group(3)));
        }
        Due.is("calls with an answer beside them", made, ANY_CALL.matcher(text).results().count());
        Due.holds("there are calls", made > 0);
    }

    private static int answer(CoalescedCalls card, String name, String list) throws ReflectiveOperationException {
        String[] arguments = list.isEmpty() ? new String[0] : list.split(", ");
        for (Method method : CoalescedCalls.class.getMethods()) {
            if (method.getName().equals(name) && method.getParameterCount() == arguments.length) {
                return (int) method.invoke(card, values(method, arguments));
            }
        }
        throw new NoSuchMethodException(name);
    }

    private static Object[] values(Method method, String[] arguments) {
        Object[] values = new Object[arguments.length];
        for (int n = 0; n < values.length; n++) {
            boolean wide = method.getParameterTypes()[n] == long.class;
            long value = Long.decode(arguments[n].replaceAll("L$", ""));
            // not by ?:, which would make a Long of both
            if (wide) {
                values[n] = value;
            } else {
                values[n] = (int) value;
            }
        }
        return values;
    }

    private static void constants(String text) throws ReflectiveOperationException {
        Due.part("the tables of README.md");
        int found = 0;
        Matcher row = CONSTANT.matcher(text);
        while (row.find()) {
            found++;
            Due.is(row.group(1), CoalescedCalls.class.getField(row.group(1)).getInt(null), Long.parseLong(row.group(2)));
        }
        Due.is("errors, and NONE", found, 6);
    }
}
