import java.io.IOException;
import java.lang.reflect.Constructor;
import java.lang.reflect.Field;
import java.lang.reflect.Method;
import java.lang.reflect.Modifier;
import java.nio.file.Files;
import java.nio.file.Path;
import java.util.ArrayList;
import java.util.List;
import java.util.Set;
import java.util.TreeSet;
import java.util.regex.Pattern;

/** The public face is that of the document, and the source keeps to what can be told of ../shared/LANGUAGE.md. */
public final class FaceTest {
    private static final List<String> METHODS = List.of(
        "set(int, int)", "come(int)", "sense(int, int, int)", "stop()", "restart()", "pass(int)",
        "of(int, int)", "ofSpot(int, int)", "ofStop(int, int)", "rule(int)", "count(int)",
        "way()", "emptyIn()", "leastRamp(int)", "wouldHold(int)", "fewest()",
        "put(long)", "wipe()", "fault()", "load()", "undo()", "save(int)", "restore(int)");
    private static final List<String> CONSTANTS = List.of(
        "NO_SUCH=-1", "BAD_VALUE=-2", "BAD_TEXT=-3", "TOO_MANY=-4", "NOT_POSSIBLE=-5", "NONE=-6",
        "FULL=0", "SLOW=1", "RAMP=2", "IDLE=3", "DOUBT=4", "PER=5", "HEAVY=6");
    private static final List<String> LEFT_OUT = List.of(
        "throw", "throws", "try", "catch", "finally", "synchronized", "assert", "import", "package",
        "static\\s*\\{", "->", "::", "\\bvar\\b", "Exact\\b", "Object\\b", "Random", "System\\.(?!arraycopy)",
        "Thread", "float", "equals", "hashCode", "toString");

    private FaceTest() { }

    public static void main(String[] args) throws Exception {
        face();
        constants();
        inside();
        source();
        Check.end("FaceTest");
    }

    private static void face() {
        Class<?> type = SoftStairs.class;
        Check.due("public and final", type.getModifiers(), Modifier.PUBLIC | Modifier.FINAL);
        Constructor<?>[] constructors = type.getDeclaredConstructors();
        Check.due("one constructor", constructors.length, 1);
        Check.due("it is public", constructors[0].getModifiers(), Modifier.PUBLIC);
        Check.due("without parameters", constructors[0].getParameterCount(), 0);
        Set<String> names = new TreeSet<>();
        List<String> open = new ArrayList<>();
        List<String> closed = new ArrayList<>();
        for (Method method : type.getDeclaredMethods()) {
            if (method.isSynthetic()) {
                continue;
            }
            if (Modifier.isPrivate(method.getModifiers())) {
                closed.add(method.getName());
                continue;
            }
            Check.due(method.getName() + " is public alone", method.getModifiers(), Modifier.PUBLIC);
            Check.holds(method.getName() + " answers an int", method.getReturnType() == int.class);
            String parameters = java.util.Arrays.toString(method.getParameterTypes());
            open.add(method.getName() + "(" + parameters.substring(1, parameters.length() - 1) + ")");
            names.add(method.getName());
        }
        Check.holds("the methods of the face", new TreeSet<>(open).equals(new TreeSet<>(METHODS)));
        for (String name : closed) {
            Check.holds(name + " is not the name of a public method", !names.contains(name));
        }
    }

    private static void constants() throws IllegalAccessException {
        List<String> open = new ArrayList<>();
        for (Field field : SoftStairs.class.getDeclaredFields()) {
            if (Modifier.isPrivate(field.getModifiers()) || field.isSynthetic()) {
                continue;
            }
            int want = Modifier.PUBLIC | Modifier.STATIC | Modifier.FINAL;
            Check.due(field.getName() + " is a public constant", field.getModifiers(), want);
            open.add(field.getName() + "=" + field.getInt(null));
        }
        Check.holds("the constants of the face", new TreeSet<>(open).equals(new TreeSet<>(CONSTANTS)));
    }

    private static void inside() {
        for (Class<?> type : SoftStairs.class.getDeclaredClasses()) {
            int modifiers = type.getModifiers();
            Check.holds(type.getName() + " is static", Modifier.isStatic(modifiers));
            Check.holds(type.getName() + " is not open", !Modifier.isPublic(modifiers) && !Modifier.isProtected(modifiers));
            Check.holds(type.getName() + " has few fields", type.getDeclaredFields().length <= 20);
            for (Field field : type.getDeclaredFields()) {
                boolean still = !Modifier.isStatic(field.getModifiers()) || Modifier.isFinal(field.getModifiers());
                Check.holds(field + " is no static state", still);
            }
        }
        for (Field field : SoftStairs.class.getDeclaredFields()) {
            boolean still = !Modifier.isStatic(field.getModifiers()) || Modifier.isFinal(field.getModifiers());
            Check.holds(field + " is no static state", still);
        }
    }

    private static void source() throws IOException {
        String source = Files.readString(Path.of("src/main/java/SoftStairs.java"));
        String code = source.replaceAll("(?s)/\\*.*?\\*/", " ").replaceAll("//[^\n]*", " ");
        for (String word : LEFT_OUT) {
            String whole = Character.isLetter(word.charAt(0)) && word.matches("[a-zA-Z]+") ? "\\b" + word + "\\b" : word;
            Check.holds("the source has no " + word, !Pattern.compile(whole).matcher(code).find());
        }
        for (int i = 0; i < source.length(); i++) {
            char sign = source.charAt(i);
            if (sign > 126 || sign < 32 && sign != '\n') {
                Check.due("the sign at " + i, sign, ' ');
            }
        }
    }
}
