import java.lang.reflect.Constructor;
import java.lang.reflect.Field;
import java.lang.reflect.Member;
import java.lang.reflect.Method;
import java.lang.reflect.Modifier;
import java.nio.file.Files;
import java.nio.file.Path;
import java.util.Arrays;
import java.util.Set;
import java.util.TreeSet;
import java.util.regex.Matcher;
import java.util.regex.Pattern;

/** The class has the document's face and no other, and its text keeps to rules of LANGUAGE.md that are plain to see. */
public final class FaceTest {
    private static final String[] METHODS = {
        "set(int, int)", "write()", "heat(int, int, int)", "read(int, int)", "fuse(int, int)", "pass(int)", "burn(int)",
        "word(int, int, int)", "story(int, int)", "count(int)", "letter(int, int)", "sideBySide(int, int, int)",
        "common(int, int)", "ifHeated(int, int, int, int)", "critical(int, int)", "touchiest(int, int)",
        "coolestPair(int)", "put(long)", "wipe()", "fault()", "undo()", "save(int)", "restore(int)"};
    private static final String[] CONSTANTS = {"NO_SUCH -1", "BAD_VALUE -2", "BAD_TEXT -3", "TOO_MANY -4",
        "NOT_POSSIBLE -5", "NONE -6", "LIMIT 0", "SPARK 1", "COOL 2"};
    private static final String[] FORBIDDEN = {"\\bthrow\\b", "\\btry\\b", "\\bcatch\\b", "\\bsynchronized\\b",
        "\\bassert\\b", "->", "::", "\\bpackage\\b", "@", "\\binstanceof\\b", "\\bInteger\\b", "\\bprotected\\b",
        "import (?!java\\.util\\.Arrays;)", "\\bMath\\.(?!max|min)", "\\bArrays\\.(?!fill|\\s)", "\\bSystem\\.(?!arraycopy)"};

    public static void main(String[] args) throws Exception {
        methods();
        constants();
        constructors();
        source();
        Check.end();
    }

    private static void same(String what, Set<String> got, String... want) {
        Check.due(what + " " + got, got.equals(new TreeSet<>(Arrays.asList(want))) ? 1 : 0, 1);
    }

    private static boolean isSeen(Member member) {
        return !Modifier.isPrivate(member.getModifiers());
    }

    private static void methods() {
        Set<String> seen = new TreeSet<>();
        Set<String> names = new TreeSet<>();
        for (Method method : HeatedStories.class.getDeclaredMethods()) {
            if (isSeen(method)) {
                String types = Arrays.toString(method.getParameterTypes());
                seen.add(method.getName() + "(" + types.substring(1, types.length() - 1) + ")");
                names.add(method.getName());
                Check.due(method + " is public", method.getModifiers(), Modifier.PUBLIC);
                Check.due(method + " returns an int", method.getReturnType() == int.class ? 1 : 0, 1);
            }
        }
        same("the methods are", seen, METHODS);
        for (Method method : HeatedStories.class.getDeclaredMethods()) {
            Check.due(method + " has a name of its own", !isSeen(method) && names.contains(method.getName()) ? 1 : 0, 0);
        }
    }

    private static void constants() throws IllegalAccessException {
        Set<String> seen = new TreeSet<>();
        for (Field field : HeatedStories.class.getDeclaredFields()) {
            if (isSeen(field)) {
                seen.add(field.getName() + " " + field.getInt(null));
                Check.due(field + "", field.getModifiers(), Modifier.PUBLIC | Modifier.STATIC | Modifier.FINAL);
            }
        }
        same("the constants are", seen, CONSTANTS);
    }

    private static void constructors() {
        Constructor<?>[] all = HeatedStories.class.getDeclaredConstructors();
        Check.due("constructors", all.length, 1);
        Check.due("arguments", all[0].getParameterCount(), 0);
        Check.due("the constructor is public", all[0].getModifiers(), Modifier.PUBLIC);
        Check.due("the class", HeatedStories.class.getModifiers(), Modifier.PUBLIC | Modifier.FINAL);
        for (Class<?> inside : HeatedStories.class.getDeclaredClasses()) {
            Check.due(inside + " is static", Modifier.isStatic(inside.getModifiers()) ? 1 : 0, 1);
            Check.due(inside + " is not public", Modifier.isPublic(inside.getModifiers()) ? 1 : 0, 0);
        }
    }

    private static void source() throws Exception {
        String text = Files.readString(Path.of("src/main/java/HeatedStories.java"));
        String code = text.replaceAll("(?s)/\\*.*?\\*/", "").replaceAll("//[^\n]*", "");
        for (String forbidden : FORBIDDEN) {
            Matcher matcher = Pattern.compile(forbidden).matcher(code);
            Check.due("the source has " + forbidden, matcher.find() ? 1 : 0, 0);
        }
    }
}
