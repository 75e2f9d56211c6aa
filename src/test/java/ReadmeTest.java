import java.io.IOException;
import java.lang.reflect.Method;
import java.nio.file.Files;
import java.nio.file.Path;
import java.util.regex.Matcher;
import java.util.regex.Pattern;

/** The calls that README.md shows answer what it says. */
public final class ReadmeTest {
    private static final Pattern CALL = Pattern.compile("stairs\\.(\\w+)\\((.*)\\);\\s*// (-?\\d+)\\b.*");

    private ReadmeTest() { }

    public static void main(String[] args) throws ReflectiveOperationException, IOException {
        SoftStairs stairs = new SoftStairs();
        int calls = 0;
        int shown = 0;
        for (String line : Files.readAllLines(Path.of("README.md"))) {
            shown += line.startsWith("stairs.") ? 1 : 0;
            Matcher call = CALL.matcher(line);
            if (call.matches()) {
                calls++;
                int got = answer(stairs, call.group(1), call.group(2));
                Check.due("README.md: " + line, got, Integer.parseInt(call.group(3)));
            }
        }
        Check.due("calls that can be read", calls, shown);
        Check.holds("README.md shows calls", calls > 0);
        Check.end("ReadmeTest");
    }

    private static int answer(SoftStairs stairs, String name, String told) throws ReflectiveOperationException {
        String[] words = told.isEmpty() ? new String[0] : told.split(", ");
        for (Method method : SoftStairs.class.getMethods()) {
            if (method.getName().equals(name) && method.getParameterCount() == words.length) {
                Object[] given = new Object[words.length];
                for (int i = 0; i < words.length; i++) {
                    given[i] = given(words[i], method.getParameterTypes()[i]);
                }
                return (Integer) method.invoke(stairs, given);
            }
        }
        throw new NoSuchMethodException(name + " with " + words.length + " arguments");
    }

    private static Object given(String word, Class<?> type) throws ReflectiveOperationException {
        if (word.startsWith("SoftStairs.")) {
            return SoftStairs.class.getField(word.substring("SoftStairs.".length())).getInt(null);
        }
        long number = Long.decode(word.endsWith("L") ? word.substring(0, word.length() - 1) : word);
        if (type == long.class) {
            return number;
        }
        return (int) number;
    }
}
