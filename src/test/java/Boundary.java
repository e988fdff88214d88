import java.lang.reflect.Method;
import java.util.ArrayList;
import java.util.Arrays;
import java.util.Comparator;
import java.util.List;
import java.util.function.Supplier;
import java.util.function.ToIntFunction;

/** Runs the tests of sentences, and finds out whether a call changed anything. */
final class Boundary {
    private static final int NO_SUCH = HeatedStories.NO_SUCH;
    private static final int LEAST = Integer.MIN_VALUE, MOST = Integer.MAX_VALUE;

    private Boundary() {
    }

    interface OfStory {
        int made(HeatedStories x, int story);
    }

    interface OfWord {
        int made(HeatedStories x, int story, int word);
    }

    static List<Method> testsOf(Class<?> tests) {
        List<Method> found = new ArrayList<>();
        for (Method method : tests.getDeclaredMethods()) {
            if (method.isAnnotationPresent(Says.class)) {
                found.add(method);
            }
        }
        found.sort(Comparator.comparing(Method::getName));
        return found;
    }

    static void run(Class<?> tests) throws ReflectiveOperationException {
        for (Method test : testsOf(tests)) {
            Says says = test.getAnnotation(Says.class);
            Check.begin(says.in() + " (" + test.getName() + "): ");
            test.setAccessible(true);
            test.invoke(null);
            Check.endOfTest();
        }
        Check.begin("");
        System.out.println(testsOf(tests).size() + " sentences");
        Check.end();
    }

    /** In each of the worlds the call answers what is due, and changes nothing. */
    static void changesNothing(World[] worlds, String call, ToIntFunction<HeatedStories> made, int due) {
        for (World world : worlds) {
            changesNothing(world, call + " in " + world, made, due);
        }
    }

    static void changesNothing(Supplier<HeatedStories> world, String where, ToIntFunction<HeatedStories> made, int due) {
        HeatedStories same = world.get();
        String before = counts(same);
        Check.due(where, made.applyAsInt(same), due);
        Check.same("before and behind " + where, counts(same), before);
        // looks take many calls, and an object has only 512: each look is taken at an object of its own
        for (int undos = 0; undos <= 7; undos++) {
            Check.same(undos + " undos behind " + where, undone(called(world, made), undos), undone(world.get(), undos));
        }
        for (int slot = 0; slot < 2; slot++) {
            Check.same("slot " + slot + " behind " + where, restored(called(world, made), slot), restored(world.get(), slot));
        }
        Check.same("pad behind " + where, written(called(world, made)), written(world.get()));
        Check.same("room in the pad behind " + where, filled(called(world, made)), filled(world.get()));
    }

    static void changesNothing(String call, ToIntFunction<HeatedStories> made, int due) {
        changesNothing(World.ALL, call, made, due);
    }

    /** The call answers NO_SUCH for each story that there is not. */
    static void noStory(String call, OfStory of) {
        changesNothing(call + " story -1", x -> of.made(x, -1), NO_SUCH);
        changesNothing(call + " the story behind the last", x -> of.made(x, x.count(0)), NO_SUCH);
        changesNothing(call + " story 12", x -> of.made(x, 12), NO_SUCH);
        changesNothing(call + " the least number", x -> of.made(x, LEAST), NO_SUCH);
        changesNothing(call + " the greatest number", x -> of.made(x, MOST), NO_SUCH);
    }

    /** The call answers NO_SUCH for each word that there is not, of stories that there are. */
    static void noWord(String call, OfWord of) {
        World[] worlds = World.WITH_STORIES;
        changesNothing(worlds, call + " word -1", x -> of.made(x, 0, -1), NO_SUCH);
        changesNothing(worlds, call + " the word behind the first story", x -> of.made(x, 0, x.story(0, 0)), NO_SUCH);
        changesNothing(worlds, call + " the word behind the last story",
            x -> of.made(x, x.count(0) - 1, x.story(x.count(0) - 1, 0)), NO_SUCH);
        changesNothing(worlds, call + " word -1 of the last story", x -> of.made(x, x.count(0) - 1, -1), NO_SUCH);
        changesNothing(worlds, call + " word 150", x -> of.made(x, 0, 150), NO_SUCH);
        changesNothing(worlds, call + " the least number", x -> of.made(x, 0, LEAST), NO_SUCH);
        changesNothing(worlds, call + " the greatest number", x -> of.made(x, 0, MOST), NO_SUCH);
    }

    /** The same with few changes, and with as many as can be undone. */
    static void isAChange(String call, ToIntFunction<HeatedStories> made, int due) {
        isAChange(World.YOUNG, call, made, due);
        isAChange(() -> {
            HeatedStories x = World.YOUNG.get();
            for (int change = 0; change < 6; change++) {
                x.set(HeatedStories.SPARK, 3);
            }
            return x;
        }, call + " behind 6 changes", made, due);
    }

    /** The call answers what is due, and one more state is recorded: the one before it. */
    static void isAChange(Supplier<HeatedStories> world, String where, ToIntFunction<HeatedStories> made, int due) {
        HeatedStories x = world.get();
        int undos = Math.min(6, x.count(12) + 1);
        Check.due(where, made.applyAsInt(x), due);
        Check.due("changes behind " + where, x.count(12), undos);
        Check.due("undo behind " + where, x.undo(), undos - 1);
        Check.same("undone " + where, undoable(x), undoable(world.get()));
    }

    /** What undo brings back: all but the pad and the history. */
    private static String undoable(HeatedStories x) {
        StringBuilder answers = new StringBuilder();
        for (int what = 0; what <= 10; what++) {
            answers.append(x.count(what)).append(' ');
        }
        int stories = x.count(0);
        for (int story = 0; story < stories; story++) {
            answers.append(x.story(story, 3)).append(' ').append(x.story(story, 4)).append(' ');
        }
        return answers + Check.shown(x);
    }

    private static HeatedStories called(Supplier<HeatedStories> world, ToIntFunction<HeatedStories> made) {
        HeatedStories x = world.get();
        made.applyAsInt(x);
        return x;
    }

    /** All counts, the fault, and all that is told of stories. */
    private static String counts(HeatedStories x) {
        List<Integer> answers = new ArrayList<>();
        for (int what = 0; what <= 12; what++) {
            answers.add(x.count(what));
        }
        answers.add(x.fault());
        for (int story = 0; story < answers.get(0); story++) {
            for (int what = 0; what <= 7; what++) {
                answers.add(x.story(story, what));
            }
        }
        return answers.toString();
    }

    private static String looks(HeatedStories x) {
        return counts(x) + Check.shown(x);
    }

    private static String undone(HeatedStories x, int undos) {
        int[] left = new int[undos];
        for (int time = 0; time < undos; time++) {
            left[time] = x.undo();
        }
        return Arrays.toString(left) + looks(x);
    }

    private static String restored(HeatedStories x, int slot) {
        return x.restore(slot) + looks(x);
    }

    /** What the pad holds, and the next family, are seen when stories are written. */
    private static String written(HeatedStories x) {
        int stories = x.count(0);
        for (int burnt = 0; burnt < stories; burnt++) {
            x.burn(0);
        }
        return x.put('q') + " " + x.fault() + " " + x.write() + looks(x);
    }

    private static String filled(HeatedStories x) {
        StringBuilder lengths = new StringBuilder();
        for (int time = 0; time < 8; time++) {
            lengths.append(' ').append(x.put(Check.coded("abcdefgh")));
        }
        return lengths + " " + x.put('a') + " " + x.wipe() + " " + x.write();
    }
}
