import java.io.IOException;
import java.lang.reflect.Field;
import java.lang.reflect.Method;
import java.lang.reflect.Modifier;
import java.nio.charset.StandardCharsets;
import java.nio.file.Files;
import java.nio.file.Path;
import java.util.Set;
import java.util.TreeSet;
import java.util.regex.Matcher;
import java.util.regex.Pattern;

/** The face of the class, and those rules of LANGUAGE.md that can be told from its text. */
public final class FaceTests {
    private static final Set<String> METHODS = Set.of(
            "int set(int,int)", "int bounds(int,int,int)", "int come(int)", "int mask(int)", "int call(int)",
            "int pass(int)", "int of(int,int)", "int frame(int,int)", "int row(int)", "int count(int)",
            "int why(int)", "int takenIn(int)", "int would(int,int)", "int bestCount(int,int,int)", "int put(long)",
            "int wipe()", "int fault()", "int carryOut()", "int undo()", "int save(int)", "int restore(int)");
    private static final Set<String> PUBLIC_NAMES = Set.of("set", "bounds", "come", "mask", "call", "pass", "of",
            "frame", "row", "count", "why", "takenIn", "would", "bestCount", "put", "wipe", "fault", "carryOut",
            "undo", "save", "restore");
    private static final Set<String> CONSTANTS = Set.of(
            "NO_SUCH=-1", "BAD_VALUE=-2", "BAD_TEXT=-3", "TOO_MANY=-4", "NOT_POSSIBLE=-5", "NONE=-6",
            "RING=0", "BUDGET=1", "FOLLOW=2", "COST=3");
    private static final String BANNED = "throw|throws|try|catch|finally|synchronized|assert|import|package|native|"
            + "volatile|transient|protected|->|::|hashCode|toString|equals|System\\.(?!arraycopy)\\w+|"
            + "\\w+Exact|Thread|Object|var|yield";

    private FaceTests() {
    }

    public static void main(String[] args) throws Exception {
        face();
        constants();
        inside();
        text();
        Due.end();
    }

    private static void face() {
        Due.part("face");
        Class<?> type = CoalescedCalls.class;
        Due.holds("public", Modifier.isPublic(type.getModifiers()));
        Due.holds("final", Modifier.isFinal(type.getModifiers()));
        Due.is("constructors", type.getDeclaredConstructors().length, 1);
        Due.is("public constructors without parameters", type.getConstructors()[0].getParameterCount(), 0);
        Set<String> found = new TreeSet<>();
        for (Method method : type.getDeclaredMethods()) {
            if (!Modifier.isPrivate(method.getModifiers())) {
                found.add(shape(method));
                Due.holds(method + " is public", Modifier.isPublic(method.getModifiers()));
                Due.holds(method + " is of the object", !Modifier.isStatic(method.getModifiers()));
            }
        }
        Due.holds("methods: " + found, found.equals(METHODS));
        for (Method method : type.getDeclaredMethods()) {
            Due.holds(method + " has a name of its own",
                    !Modifier.isPrivate(method.getModifiers()) || !PUBLIC_NAMES.contains(method.getName()));
        }
    }

    private static String shape(Method method) {
        StringBuilder text = new StringBuilder();
        for (Class<?> type : method.getParameterTypes()) {
            text.append(text.length() == 0 ? "" : ",").append(type);
        }
        return method.getReturnType() + " " + method.getName() + "(" + text + ")";
    }

    private static void constants() throws IllegalAccessException {
        Due.part("constants");
        Set<String> found = new TreeSet<>();
        for (Field field : CoalescedCalls.class.getDeclaredFields()) {
            int modifiers = field.getModifiers();
            if (Modifier.isStatic(modifiers)) {
                Due.holds(field + " is final", Modifier.isFinal(modifiers));
            }
            if (!Modifier.isPrivate(modifiers)) {
                Due.holds(field + " is public", Modifier.isPublic(modifiers));
                Due.holds(field + " is static", Modifier.isStatic(modifiers));
                Due.holds(field + " is an int", field.getType() == int.class);
                found.add(field.getName() + "=" + field.getInt(null));
            }
        }
        Due.holds("constants: " + found, found.equals(CONSTANTS));
    }

    private static void inside() {
        Due.part("classes inside");
        int classes = 1;
        for (Class<?> type : CoalescedCalls.class.getDeclaredClasses()) {
            classes++;
            int modifiers = type.getModifiers();
            Due.holds(type + " is static", Modifier.isStatic(modifiers));
            Due.holds(type + " is not public", !Modifier.isPublic(modifiers) && !Modifier.isProtected(modifiers));
            int fields = 0;
            for (Field field : type.getDeclaredFields()) {
                fields += Modifier.isStatic(field.getModifiers()) ? 0 : 1;
                Due.holds(field + " is final", !Modifier.isStatic(field.getModifiers())
                        || Modifier.isFinal(field.getModifiers()));
            }
            Due.holds(type + " has some twenty fields at most", fields <= 20);
            for (Method method : type.getDeclaredMethods()) {
                Due.holds(method + " has a name of its own", !PUBLIC_NAMES.contains(method.getName()));
            }
        }
        Due.holds("some twelve classes at most", classes <= 12);
    }

    private static void text() throws IOException {
        Due.part("text");
        Path file = Path.of("src/main/java/CoalescedCalls.java");
        String text = Files.readString(file, StandardCharsets.US_ASCII);
        String code = text.replaceAll("(?s)/\\*.*?\\*/", " ").replaceAll("//[^\n]*", " ");
        Matcher banned = Pattern.compile("(?<![\\w.])(" + BANNED + ")(?!\\w)").matcher(code);
        while (banned.find()) {
            Due.holds("no " + banned.group(), false);
        }
        Matcher library = Pattern.compile("\\b(Math|Integer|Long|Arrays|System)\\.(\\w+)").matcher(code);
        while (library.find()) {
            Due.holds(library.group() + " is in the library", Set.of("Math.max", "Math.min", "System.arraycopy")
                    .contains(library.group()));
        }
        Due.holds("no text is joined or made", code.indexOf('"') < 0);
    }
}
