import java.io.IOException;
import java.lang.reflect.Field;
import java.lang.reflect.InvocationTargetException;
import java.lang.reflect.Method;
import java.lang.reflect.Modifier;
import java.nio.file.Files;
import java.nio.file.Path;
import java.util.ArrayList;
import java.util.List;
import java.util.Set;
import java.util.TreeSet;
import java.util.regex.Matcher;
import java.util.regex.Pattern;

/** The calls that README.md shows are made, from the first to the last, and answer as it says. */
public final class ReadmeTest {
    private static final int MOST_CALLS = 512;
    private static final Pattern BLOCK = Pattern.compile("(?ms)^```java\n(.*?)^```$");
    private static final Pattern MAKING = Pattern.compile("HeatedStories reactor = new HeatedStories\\(\\);");
    private static final Pattern CALL = Pattern.compile("reactor\\.(\\w+)\\((.*)\\); +// (-?\\d+)(: .*)?");
    // stories as README.md shows them behind what a call answers
    private static final Pattern STORIES = Pattern.compile(".*[ :]([a-z]\\w*(?:/[a-z]\\w*)+)( again|, no reaction)?");
    private static final Pattern TEXT = Pattern.compile("packed\\(\"([!-~]{1,8})\"\\)");

    private static final Set<String> called = new TreeSet<>();
    private static final Set<String> answered = new TreeSet<>();
    // the calls of one object so far: made again, they make one that stands the same, with calls left to look at it
    private static final List<Call> calls = new ArrayList<>();
    private static HeatedStories reactor;
    private static int storiesShown;

    private record Call(Method method, Object[] values) {
        int madeOn(HeatedStories object) throws IllegalAccessException, InvocationTargetException {
            return (Integer) method.invoke(object, values);
        }
    }

    public static void main(String[] args) throws Exception {
        String readme = Files.readString(Path.of("README.md"));
        blocks(readme);
        everyCallIsShown();
        Check.due("README.md shows stories", storiesShown > 0 ? 1 : 0, 1);
        constants(readme);
        Check.due("it tells the bound of calls", readme.contains("at most 512 calls") ? 1 : 0, 1);
        Check.due("it tells how the tests are run", readme.contains("    .ci/run\n") ? 1 : 0, 1);
        Check.end();
    }

    private static void blocks(String readme) throws Exception {
        String helper = helper();
        boolean helperStands = false;
        Matcher block = BLOCK.matcher(readme);
        while (block.find()) {
            if (block.group(1).equals(helper)) {
                helperStands = true;
            } else {
                lines(block.group(1));
            }
        }
        Check.due("packed stands in README.md as it stands here", helperStands ? 1 : 0, 1);
    }

    private static void lines(String block) throws Exception {
        for (String line : block.split("\n")) {
            Matcher call = CALL.matcher(line);
            if (call.matches()) {
                Check.due("README.md: " + line, answer(call.group(1), call.group(2)), Long.parseLong(call.group(3)));
                called.add(call.group(1));
                answered.add(call.group(3));
                stories(line);
            } else if (MAKING.matcher(line).matches()) {
                reactor = new HeatedStories();
                calls.clear();
            } else {
                Check.due("README.md has a line that cannot be tried, if it is not empty: " + line, line.length(), 0);
            }
        }
    }

    private static int answer(String name, String list) throws IllegalAccessException, InvocationTargetException {
        String[] arguments = list.isEmpty() ? new String[0] : list.split(", ");
        Method method = methodOf(name);
        if (method == null || method.getParameterCount() != arguments.length) {
            Check.due("README.md calls what there is not: " + name + "(" + list + ")", 1, 0);
            return 0;
        }
        Object[] values = new Object[arguments.length];
        for (int index = 0; index < values.length; index++) {
            long value = valueOf(arguments[index]);
            values[index] = method.getParameterTypes()[index] == long.class ? (Object) value : (Object) (int) value;
        }
        calls.add(new Call(method, values));
        Check.due("calls of one object are at most 512", calls.size() <= MOST_CALLS ? 1 : 0, 1);
        return calls.get(calls.size() - 1).madeOn(reactor);
    }

    private static void stories(String line) throws IllegalAccessException, InvocationTargetException {
        Matcher shown = STORIES.matcher(line);
        if (shown.matches()) {
            HeatedStories twin = new HeatedStories();
            for (Call call : calls) {
                call.madeOn(twin);
            }
            Check.shows("README.md: " + line, twin, shown.group(1));
            storiesShown++;
        }
    }

    private static Method methodOf(String name) {
        for (Method method : HeatedStories.class.getDeclaredMethods()) {
            if (method.getName().equals(name) && Modifier.isPublic(method.getModifiers())) {
                return method;
            }
        }
        return null;
    }

    private static long valueOf(String argument) throws IllegalAccessException {
        Matcher text = TEXT.matcher(argument);
        if (text.matches()) {
            return packed(text.group(1));
        }
        if (argument.startsWith("HeatedStories.")) {
            return constantOf(argument.substring("HeatedStories.".length()));
        }
        return Long.decode(argument.replaceAll("L$", ""));
    }

    private static long constantOf(String name) throws IllegalAccessException {
        for (Field field : HeatedStories.class.getFields()) {
            if (field.getName().equals(name)) {
                return field.getInt(null);
            }
        }
        Check.due("README.md names what there is not: " + name, 1, 0);
        return 0;
    }

    static long packed(String characters) {
        long number = 0;
        for (int index = 0; index < characters.length(); index++) {
            number = number << 8 | characters.charAt(index);
        }
        return number;
    }

    /** The lines of packed above, as they stand at the margin. */
    private static String helper() throws IOException {
        String source = Files.readString(Path.of("src/test/java/ReadmeTest.java"));
        int start = source.indexOf("    static long packed");
        int end = source.indexOf("\n    }\n", start);
        return source.substring(start, end + 7).replaceAll("(?m)^    ", "");
    }

    private static void everyCallIsShown() {
        Set<String> all = new TreeSet<>();
        for (Method method : HeatedStories.class.getDeclaredMethods()) {
            if (Modifier.isPublic(method.getModifiers())) {
                all.add(method.getName());
            }
        }
        Check.same("README.md shows", called.toString(), all.toString());
        for (int code = HeatedStories.NONE; code < 0; code++) {
            Check.due("README.md shows a call that answers " + code, answered.contains("" + code) ? 1 : 0, 1);
        }
    }

    private static void constants(String readme) throws IllegalAccessException {
        for (Field field : HeatedStories.class.getFields()) {
            String row = "| `" + field.getName() + "` | " + field.getInt(null) + " |";
            Check.due("README.md has the row " + row, readme.contains(row) ? 1 : 0, 1);
        }
    }
}
