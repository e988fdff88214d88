import java.util.function.Supplier;

/** A test for each sentence of promises 1 to 8 that names a boundary case. */
public final class BoundariesOfChangesTest {
    private static final int NO_SUCH = -1, BAD_VALUE = -2, BAD_TEXT = -3, TOO_MANY = -4, NOT_POSSIBLE = -5, NONE = -6;
    private static final int LIMIT = 0, SPARK = 1, COOL = 2;
    private static final int LEAST = Integer.MIN_VALUE, MOST = Integer.MAX_VALUE;

    public static void main(String[] args) throws ReflectiveOperationException {
        Boundary.run(BoundariesOfChangesTest.class);
    }

    // ---- promise 1: a new object

    @Says(in = "Promise 1", words = "Creates an empty reactor.")
    static void p01_everything_is_empty() {
        HeatedStories x = new HeatedStories();
        int[] counts = {0, 0, 0, 0, 0, 0, 0, NONE, 20, 3, 2, 0, 0};
        for (int what = 0; what < counts.length; what++) {
            Check.due("count " + what, x.count(what), counts[what]);
        }
        for (int what = 0; what < 4; what++) {
            Check.due("letter a, what " + what, x.letter(0, what), 0);
            Check.due("letter z, what " + what, x.letter(25, what), 0);
        }
        Check.due("story 0", x.story(0, 0), NO_SUCH);
        Check.due("word 0", x.word(0, 0, 0), NO_SUCH);
        Check.due("common", x.common(0, 0), NO_SUCH);
        Check.due("sideBySide 0", x.sideBySide(0, 1, 0), 0);
        Check.due("sideBySide 1", x.sideBySide(0, 1, 1), NONE);
        Check.due("touchiest", x.touchiest(500, 2), NONE);
        Check.due("coolestPair", x.coolestPair(1), NONE);
        Check.due("fault", x.fault(), 0);
        Check.due("wipe", x.wipe(), 0);
        Check.due("undo", x.undo(), NOT_POSSIBLE);
        Check.due("restore 0", x.restore(0), NOT_POSSIBLE);
        Check.due("restore 1", x.restore(1), NOT_POSSIBLE);
        Check.due("write", x.write(), BAD_TEXT);
        Check.due("pass", x.pass(30), 0);
        Check.due("another object", new HeatedStories().count(12), 0);
    }

    // ---- promise 2: set

    @Says(in = "Promise 2", words = "(no reactions follow by that)")
    static void p02_no_reactions_follow() {
        HeatedStories x = Check.with("a19b19/c19");
        Check.due("a LIMIT below the heat", x.set(LIMIT, 10), 20);
        Check.shows("the hot words stay", x, "a19b19/c19");
        Check.due("no reactions", x.count(4) + x.count(5) + x.count(6), 0);
        x.set(SPARK, 4);
        x.set(COOL, 20);
        Check.shows("the hot words stay", x, "a19b19/c19");
    }

    @Says(in = "Promise 2", words = "This is a change.")
    static void p02_is_a_change_also_to_the_same_value() {
        Boundary.isAChange("set(LIMIT, 20)", x -> x.set(LIMIT, 20), 20);
        Boundary.isAChange("set(SPARK, 4)", x -> x.set(SPARK, 4), 3);
    }

    @Says(in = "Promise 2", words = "Returns the previous value")
    static void p02_returns_the_previous_value_at_both_ends() {
        HeatedStories x = new HeatedStories();
        int[][] calls = {{LIMIT, 10, 20}, {LIMIT, 99, 10}, {LIMIT, 99, 99}, {LIMIT, 10, 99}, {SPARK, 0, 3}, {SPARK, 4, 0},
            {SPARK, 0, 4}, {COOL, 0, 2}, {COOL, 20, 0}, {COOL, 0, 20}};
        for (int[] call : calls) {
            Check.due("set(" + call[0] + ", " + call[1] + ")", x.set(call[0], call[1]), call[2]);
        }
    }

    @Says(in = "Promise 2", words = "BAD_VALUE if there is no such setting")
    static void p02_BAD_VALUE_no_such_setting() {
        for (int setting : new int[] {-1, 3, LEAST, MOST}) {
            for (int value : new int[] {0, 3, 10, 20, 99}) {
                Boundary.changesNothing("set(" + setting + ", " + value + ")", x -> x.set(setting, value), BAD_VALUE);
            }
        }
        HeatedStories x = new HeatedStories();
        Check.due("the first setting", x.set(0, 50), 20);
        Check.due("the last setting", x.set(2, 20), 2);
    }

    @Says(in = "Promise 2", words = "or the value is out of its range.")
    static void p02_BAD_VALUE_value_out_of_its_range() {
        int[][] outside = {{LIMIT, 9, 100}, {SPARK, -1, 5}, {COOL, -1, 21}, {LIMIT, LEAST, MOST}, {SPARK, LEAST, MOST},
            {COOL, LEAST, MOST}, {LIMIT, 0, -10}};
        for (int[] row : outside) {
            Boundary.changesNothing("set(" + row[0] + ", " + row[1] + ")", x -> x.set(row[0], row[1]), BAD_VALUE);
            Boundary.changesNothing("set(" + row[0] + ", " + row[2] + ")", x -> x.set(row[0], row[2]), BAD_VALUE);
        }
        int[][] inside = {{LIMIT, 10, 99}, {SPARK, 0, 4}, {COOL, 0, 20}};
        for (int[] row : inside) {
            HeatedStories x = new HeatedStories();
            x.set(row[0], row[1]);
            Check.due("the lowest value", x.count(8 + row[0]), row[1]);
            x.set(row[0], row[2]);
            Check.due("the highest value", x.count(8 + row[0]), row[2]);
        }
    }

    // ---- promise 3: write

    @Says(in = "Promise 3", words = "Writes the stories of the pad, behind those that there are, each with a family of its own, and empties the pad")
    static void p03_behind_those_that_there_are_and_empties_the_pad() {
        HeatedStories x = Check.with("a");
        Check.shows("behind none", x, "a");
        Check.due("its family", x.story(0, 3), 0);
        Check.due("the pad is empty", x.count(11), 0);
        Check.due("its fault is that of an empty pad", x.fault(), 0);
        Check.type(x, "b1/c/d12");
        Check.due("behind one", x.write(), 4);
        Check.shows("behind one", x, "a/b1/c/d12");
        Check.due("families", x.count(3), 4);
        Check.due("the last family", x.story(3, 3), 3);
        Check.due("the pad is empty", x.wipe(), 0);
        x.burn(3);
        Check.type(x, "e");
        x.write();
        Check.shows("without the heat of a word that is gone", x, "a/b1/c/e");
        x = new HeatedStories();
        Check.type(x, World.sixty());
        x.write();
        Check.due("60 characters are gone", x.count(11), 0);
    }

    @Says(in = "Promise 3", words = "This is a change.")
    static void p03_is_a_change() {
        Boundary.isAChange("put and write", x -> x.put('q') + x.write(), 1 + 4);
    }

    @Says(in = "Promise 3", words = {"then reactions follow", "Returns how many stories there are then"})
    static void p03_returns_the_stories_behind_reactions() {
        String[] texts = {"a", "ab19", "ab20", "ab99c99", "a99", "a/b/c/d/e/f/g/h/i/j/kl99", "a/b/c/d/e/f/g/h/i/j/k/l99",
            "a/b/c/d/e/f/g/h/i/j/k/lm99"};
        int[] stories = {1, 1, 2, 3, 1, 12, 12, 12};
        for (int at = 0; at < texts.length; at++) {
            HeatedStories x = new HeatedStories();
            Check.type(x, texts[at]);
            Check.due("write of " + texts[at], x.write(), stories[at]);
            Check.due("stories of " + texts[at], x.count(0), stories[at]);
        }
    }

    @Says(in = "Promise 3", words = "BAD_TEXT if the pad has a fault")
    static void p03_BAD_TEXT_if_the_pad_has_a_fault() {
        String most = World.sixty().substring(0, 59);
        for (String text : new String[] {"", "/", "a/", "1", "a0", "a100", "A", "a//b", most + "/", most + "A"}) {
            for (World world : World.ALL) {
                Boundary.changesNothing(world.with(text), "write of \"" + text + "\" in " + world, x -> x.write(), BAD_TEXT);
            }
        }
        // the full house has no room for another story: its faults, above, came ahead of TOO_MANY
        Boundary.changesNothing(World.FULL.with("a"), "write without a fault", x -> x.write(), TOO_MANY);
    }

    @Says(in = "Promise 3", words = "TOO_MANY if there would be more than 12 stories (ahead of reactions)")
    static void p03_TOO_MANY_more_than_12_stories_ahead_of_reactions() {
        tooMany("", "a/b/c/d/e/f/g/h/i/j/k/l/m");
        tooMany("a", "b/c/d/e/f/g/h/i/j/k/l/m");
        tooMany("a/b/c/d/e/f/g/h/i/j/k", "l/m");
        tooMany("a/b/c/d/e/f/g/h/i/j/k/l", "m");
        tooMany("a/b/c/d/e/f/g/h/i/j/k/l", "m/n/o/p/q/r/s/t/u/v/w/x");
        String[] before = {"", "a", "a/b/c/d/e/f/g/h/i/j/k", "a/b/c/d/e/f/g/h/i/j"};
        String[] text = {"a/b/c/d/e/f/g/h/i/j/k/l", "b/c/d/e/f/g/h/i/j/k/l", "l", "k/l"};
        for (int at = 0; at < before.length; at++) {
            HeatedStories x = standing(before[at], text[at]).get();
            Check.due("12 stories, " + text[at], x.write(), 12);
            Check.due("behind " + before[at], x.count(0), 12);
        }
        // 12 stories ahead of reactions that find no room, and 11 that find room for one
        HeatedStories x = standing("a/b/c/d/e/f/g/h/i/j/k", "l20m20n20").get();
        Check.due("12 stories, and hot words", x.write(), 12);
        Check.due("fizzles", x.count(6), 2);
        x = standing("a/b/c/d/e/f/g/h/i/j", "k20l20m20n").get();
        Check.due("11 stories, and hot words", x.write(), 12);
        Check.due("splits", x.count(4), 1);
        Check.due("fizzles", x.count(6), 1);
    }

    @Says(in = "Promise 3", words = "or more than 150 words.")
    static void p03_TOO_MANY_more_than_150_words() {
        Supplier<HeatedStories> full = () -> typed(World.longest(), "z");
        Boundary.changesNothing(full, "150 words and one", x -> x.write(), TOO_MANY);
        full = () -> typed(World.longest(), World.sixty());
        Boundary.changesNothing(full, "150 words and 60", x -> x.write(), TOO_MANY);
        full = () -> typed(words120(), World.sixty().substring(0, 31));
        Boundary.changesNothing(full, "120 words and 31", x -> x.write(), TOO_MANY);
        HeatedStories x = typed(words120(), World.sixty().substring(0, 30));
        Check.due("120 words and 30", x.write(), 3);
        Check.due("150 words", x.count(1), 150);
        x = typed(words120(), "a1b2c3d4e5f6g7h8i9j10/k11l12m13n14o15");
        Check.due("digits and slashes are no words", x.write(), 4);
        Check.due("120 and 15 words", x.count(1), 135);
    }

    private static void tooMany(String before, String text) {
        Boundary.changesNothing(standing(before, text), "write of " + text + " behind \"" + before + "\"", x -> x.write(), TOO_MANY);
    }

    private static Supplier<HeatedStories> standing(String stories, String text) {
        return () -> typed(stories.isEmpty() ? new HeatedStories() : Check.with(stories), text);
    }

    private static HeatedStories typed(HeatedStories x, String text) {
        Check.type(x, text);
        return x;
    }

    private static HeatedStories words120() {
        HeatedStories x = typed(Check.with(World.sixty()), World.sixty());
        x.write();
        return x;
    }

    // ---- promise 4: heat

    @Says(in = "Promise 4", words = "Heats a word; then reactions follow. This is a change.")
    static void p04_is_a_change() {
        Boundary.isAChange("heat(0, 0, 1)", x -> x.heat(0, 0, 1), 0);
        Boundary.isAChange("heat(0, 1, 18)", x -> x.heat(0, 1, 18), 1);
    }

    @Says(in = "Promise 4", words = "`by`: 1 to 500")
    static void p04_by_1_to_500() {
        HeatedStories x = Check.with("ab/c");
        Check.due("by 1", x.heat(1, 0, 1), 0);
        Check.shows("by 1", x, "ab/c1");
        Check.due("by 500", x.heat(0, 1, 500), 1);
        Check.shows("by 500", x, "a3/b/c1");
    }

    @Says(in = "Promise 4", words = "Returns how many reactions there were")
    static void p04_returns_the_reactions_also_none() {
        Check.due("none", Check.with("ab").heat(0, 1, 19), 0);
        Check.due("a split", Check.with("ab").heat(0, 1, 20), 1);
        Check.due("a boiling", Check.with("ab").heat(0, 0, 20), 1);
        Check.due("a boiling and a split", Check.with("ab17").heat(0, 0, 20), 2);
        Check.due("a fizzle", Check.with("ab/a/a/a/a/a/a/a/a/a/a/a").heat(0, 1, 20), 1);
    }

    @Says(in = "Promise 4", words = "NO_SUCH if there is no such story or word")
    static void p04_NO_SUCH_story_or_word() {
        for (int by : new int[] {1, 500, 0, 501}) {
            Boundary.noStory("heat by " + by, (x, story) -> x.heat(story, 0, by));
            Boundary.noWord("heat by " + by, (x, story, word) -> x.heat(story, word, by));
        }
        HeatedStories x = World.FULL.get();
        Check.due("the first word", x.heat(0, 0, 1), 0);
        Check.due("the last word", x.heat(11, 11, 1), 0);
    }

    @Says(in = "Promise 4", words = "BAD_VALUE if by is out of range.")
    static void p04_BAD_VALUE_by_out_of_range() {
        for (int by : new int[] {0, 501, -1, LEAST, MOST}) {
            Boundary.changesNothing(World.WITH_STORIES, "heat by " + by, x -> x.heat(0, 0, by), BAD_VALUE);
            Boundary.changesNothing(World.WITH_STORIES, "heat by " + by, x -> x.heat(x.count(0) - 1, 1, by), BAD_VALUE);
        }
    }

    // ---- promise 5: read

    @Says(in = "Promise 5", words = "each word gets some heat, all at once; then reactions follow.")
    static void p05_all_at_once_then_reactions() {
        HeatedStories x = Check.with("a19b19/c");
        Check.due("read", x.read(0, 1), 2);
        // if reactions followed word by word, b would split ahead of its heat, and have 1
        Check.shows("read", x, "a3/b/c");
        x = World.longest();
        x.read(0, 1);
        Check.due("150 words, each of them", x.story(0, 1), 150);
        x = Check.with("a/bc/d");
        x.read(1, 1);
        Check.shows("no other story", x, "a/b1c1/d");
    }

    @Says(in = "Promise 5", words = "This is a change.")
    static void p05_is_a_change() {
        Boundary.isAChange("read(0, 1)", x -> x.read(0, 1), 0);
        Boundary.isAChange("read(2, 11)", x -> x.read(2, 11), 1);
    }

    @Says(in = "Promise 5", words = "`by`: 1 to 50")
    static void p05_by_1_to_50() {
        HeatedStories x = Check.with("ab");
        x.set(LIMIT, 99);
        Check.due("by 1", x.read(0, 1), 0);
        Check.shows("by 1", x, "a1b1");
        Check.due("by 50", x.read(0, 50), 0);
        Check.shows("by 50", x, "a51b51");
    }

    @Says(in = "Promise 5", words = "Returns how many reactions there were")
    static void p05_returns_the_reactions_also_none() {
        Check.due("none", Check.with("ab").read(0, 19), 0);
        Check.due("a boiling and a split", Check.with("ab").read(0, 20), 2);
        Check.due("one word alone", Check.with("b").read(0, 50), 1);
    }

    @Says(in = "Promise 5", words = "NO_SUCH if there is no such story")
    static void p05_NO_SUCH_story() {
        for (int by : new int[] {1, 50, 0, 51}) {
            Boundary.noStory("read by " + by, (x, story) -> x.read(story, by));
        }
        HeatedStories x = World.FULL.get();
        Check.due("the first story", x.read(0, 1), 0);
        Check.due("the last story", x.read(11, 1), 0);
    }

    @Says(in = "Promise 5", words = "BAD_VALUE if by is out of range.")
    static void p05_BAD_VALUE_by_out_of_range() {
        for (int by : new int[] {0, 51, -1, 500, LEAST, MOST}) {
            Boundary.changesNothing(World.WITH_STORIES, "read by " + by, x -> x.read(0, by), BAD_VALUE);
            Boundary.changesNothing(World.WITH_STORIES, "read by " + by, x -> x.read(x.count(0) - 1, by), BAD_VALUE);
        }
    }

    // ---- promise 6: fuse

    @Says(in = "Promise 6", words = "the words of the second one come behind those of the first one; the second one goes (those behind it move up).")
    static void p06_first_and_last_stories_in_both_orders() {
        int[][] pairs = {{0, 1}, {1, 0}, {0, 3}, {3, 0}, {2, 3}, {3, 2}, {1, 2}, {2, 1}};
        String[] due = {"abac/ad/ae", "acab/ad/ae", "abae/ac/ad", "ac/ad/aeab", "ab/ac/adae", "ab/ac/aead", "ab/acad/ae",
            "ab/adac/ae"};
        for (int at = 0; at < pairs.length; at++) {
            HeatedStories x = Check.with("ab/ac/ad/ae");
            x.set(SPARK, 0);
            Check.due("fuse", x.fuse(pairs[at][0], pairs[at][1]), 0);
            Check.shows("fuse(" + pairs[at][0] + ", " + pairs[at][1] + ")", x, due[at]);
        }
        HeatedStories x = Check.with("a1b2/c3d4/c5d6/e7f8");
        x.fuse(1, 2);
        Check.shows("all heat goes with its word", x, "a1b2/c3d7c8d6/e7f8");
        x.undo();
        x.fuse(2, 1);
        Check.shows("all heat goes with its word", x, "a1b2/c5d9c6d4/e7f8");
        x = Check.with("a1b2/c3d4/a5b6/e7f8");
        x.fuse(0, 2);
        Check.shows("all heat goes with its word", x, "a1b5a8b6/c3d4/e7f8");
        x = Check.with("a/a");
        x.fuse(1, 0);
        Check.shows("one story is left", x, "a3a3");
        Check.due("no story behind it", x.story(1, 0), NO_SUCH);
        Check.due("150 words in one story", World.longest().story(0, 0), 150);
    }

    @Says(in = "Promise 6", words = "The result has the family of the first one, and a generation that is 1 more than the greater one of both.")
    static void p06_family_of_the_first_generation_1_more_than_the_greater() {
        int[][] pairs = {{0, 1}, {1, 0}, {1, 2}, {2, 1}, {0, 2}, {2, 0}, {0, 3}, {3, 0}, {1, 3}, {3, 1}};
        int[] generations = {2, 2, 2, 2, 2, 2, 1, 1, 2, 2};
        for (int at = 0; at < pairs.length; at++) {
            HeatedStories x = Check.with("aaa/a");
            x.set(SPARK, 0);
            x.heat(0, 2, 20);
            x.heat(0, 1, 20);
            // now there are four stories a, of generations 0, 1, 1, 0 and families 0, 0, 0, 1
            int story = pairs[at][0];
            int other = pairs[at][1];
            String call = "fuse(" + story + ", " + other + ")";
            x.fuse(story, other);
            int fused = other < story ? story - 1 : story;
            Check.due("generation behind " + call, x.story(fused, 4), generations[at]);
            Check.due("family behind " + call, x.story(fused, 3), story == 3 ? 1 : 0);
        }
    }

    @Says(in = "Promise 6", words = "Then the last word of the first one, and the first one of the second one, get SPARK more heat each, and reactions follow. This is a change.")
    static void p06_sparks_at_the_seam_and_reactions() {
        String[] texts = {"a/a", "ab/ca", "a16/a16", "a17/a", "a/a17", "a17/a17", "ba17/a17b/b/b/b/b/b/b/b/b/b/b"};
        int[] reactions = {0, 0, 0, 1, 1, 2, 2};
        String[] due = {"a3a3", "ab3c3a", "a19a19", "aa6", "a6/a", "a3/a", "b3/a3ab3/b/b/b/b/b/b/b/b/b/b"};
        for (int at = 0; at < texts.length; at++) {
            HeatedStories x = Check.with(texts[at]);
            Check.due("fuse of " + texts[at], x.fuse(0, 1), reactions[at]);
            Check.shows("fuse of " + texts[at], x, due[at]);
        }
        HeatedStories x = Check.with("a17/b/c/d/e/f/g/h/i/j/k/a");
        x.fuse(11, 0);
        Check.shows("of 12 stories one goes, so that there is room for a split", x, "b/c/d/e/f/g/h/i/j/k/a6/a");
        Check.due("a split", x.count(4), 1);
        Boundary.isAChange("fuse(0, 1)", y -> y.fuse(0, 1), 0);
        Boundary.isAChange("fuse(1, 0)", y -> y.fuse(1, 0), 0);
    }

    @Says(in = "Promise 6", words = "Returns how many reactions there were")
    static void p06_returns_the_reactions_also_of_other_stories() {
        HeatedStories x = Check.with("a/a/b19");
        x.set(LIMIT, 19);
        Check.due("one in another story", x.fuse(0, 1), 1);
        x = Check.with("a/a");
        x.set(SPARK, 0);
        Check.due("none without sparks", x.fuse(0, 1), 0);
    }

    @Says(in = "Promise 6", words = "NO_SUCH if there is no such story")
    static void p06_NO_SUCH_story() {
        Boundary.noStory("fuse of the first with", (x, story) -> x.fuse(0, story));
        Boundary.noStory("fuse with the first of", (x, story) -> x.fuse(story, 0));
        Boundary.noStory("fuse with itself of", (x, story) -> x.fuse(story, story));
        Boundary.noStory("fuse of the last with", (x, story) -> x.fuse(x.count(0) - 1, story));
        HeatedStories x = Check.with("a/b/c/a");
        Check.due("the first and the last", x.fuse(0, 3), 0);
    }

    @Says(in = "Promise 6", words = "BAD_VALUE if both are the same")
    static void p06_BAD_VALUE_both_the_same() {
        Boundary.changesNothing(World.WITH_STORIES, "fuse(0, 0)", x -> x.fuse(0, 0), BAD_VALUE);
        Boundary.changesNothing(World.WITH_STORIES, "fuse of the last with itself", x -> x.fuse(x.count(0) - 1, x.count(0) - 1),
            BAD_VALUE);
        Boundary.changesNothing(() -> Check.with("a"), "fuse of the only one with itself", x -> x.fuse(0, 0), BAD_VALUE);
    }

    @Says(in = "Promise 6", words = "NOT_POSSIBLE if they have unlike themes.")
    static void p06_NOT_POSSIBLE_unlike_themes() {
        Boundary.changesNothing(World.WITH_STORIES, "fuse of unlike themes", x -> x.fuse(0, unlikeTheFirst(x)), NOT_POSSIBLE);
        Boundary.changesNothing(World.WITH_STORIES, "fuse of unlike themes", x -> x.fuse(unlikeTheFirst(x), 0), NOT_POSSIBLE);
        String[] unlike = {"a/b", "a/z", "z/y", "aab/abb", "ba/bb", "ab/bc"};
        for (String text : unlike) {
            Check.due("fuse of " + text, Check.with(text).fuse(0, 1), NOT_POSSIBLE);
        }
        String[] like = {"z/z", "a/az", "ba/ab", "bab/b", "zzyy/y", "a9b/ab9"};
        for (String text : like) {
            Check.due("fuse of " + text, Check.with(text).fuse(0, 1), 0);
        }
    }

    private static int unlikeTheFirst(HeatedStories x) {
        int other = 1;
        while (x.story(other, 2) == x.story(0, 2)) {
            other++;
        }
        return other;
    }

    // ---- promise 7: pass

    @Says(in = "Promise 7", words = "in each, each word loses COOL heat (or what it has, if that is less). This is a change.")
    static void p07_loses_COOL_or_what_it_has() {
        HeatedStories x = Check.with("ab1/c2d3/e4");
        Check.due("a day", x.pass(1), 3);
        Check.shows("a day", x, "ab/cd1/e2");
        Check.due("another day", x.pass(1), 0);
        Check.shows("another day", x, "ab/cd/e");
        x = new HeatedStories();
        x.set(LIMIT, 99);
        Check.type(x, "a59b60c61d62");
        x.write();
        Check.due("30 days", x.pass(30), 3);
        Check.shows("30 days", x, "abc1d2");
        x = new HeatedStories();
        x.set(LIMIT, 99);
        x.set(COOL, 20);
        Check.type(x, "a98b20c21d19");
        x.write();
        Check.due("a day of 20", x.pass(1), 79);
        Check.shows("a day of 20", x, "a78bc1d");
        Check.due("30 days of 20", x.pass(30), 0);
        x.set(COOL, 0);
        x.heat(0, 0, 5);
        Check.due("30 days of 0", x.pass(30), 5);
        Boundary.isAChange("pass(1)", y -> y.pass(1), 7);
        Boundary.isAChange(World.NEW, "pass(1) without stories", y -> y.pass(1), 0);
    }

    @Says(in = "Promise 7", words = "`days`: 1 to 30")
    static void p07_days_1_to_30() {
        HeatedStories x = new HeatedStories();
        x.set(LIMIT, 99);
        x.set(COOL, 1);
        Check.type(x, "a98");
        x.write();
        Check.due("1 day", x.pass(1), 97);
        Check.due("30 days", x.pass(30), 67);
    }

    @Says(in = "Promise 7", words = "Returns the heat of all stories then")
    static void p07_returns_the_heat_of_all_stories_then() {
        Check.due("no story", new HeatedStories().pass(1), 0);
        Check.due("no heat", Check.with("a/b").pass(1), 0);
        Check.due("all stories", Check.with("a3/b4/c5d6").pass(1), 10);
    }

    @Says(in = "Promise 7", words = "BAD_VALUE if days is out of range.")
    static void p07_BAD_VALUE_days_out_of_range() {
        for (int days : new int[] {0, 31, -1, LEAST, MOST}) {
            Boundary.changesNothing("pass(" + days + ")", x -> x.pass(days), BAD_VALUE);
        }
    }

    // ---- promise 8: burn

    @Says(in = "Promise 8", words = "Burns a story. This is a change.")
    static void p08_burns_the_first_the_last_and_the_only_one() {
        HeatedStories x = Check.with("ab1/c2/d3ef");
        x.burn(0);
        Check.shows("the first", x, "c2/d3ef");
        x.burn(1);
        Check.shows("the last", x, "c2");
        x.burn(0);
        Check.shows("the only one", x, "");
        Check.due("stories", x.count(0), 0);
        Check.due("words", x.count(1), 0);
        x = World.FULL.get();
        Check.due("of 12 stories", x.burn(11), 12);
        Check.due("11 stories", x.count(0), 11);
        Check.due("138 words", x.count(1), 138);
        Boundary.isAChange("burn(0)", y -> y.burn(0), 3);
        Boundary.isAChange("burn(2)", y -> y.burn(2), 2);
    }

    @Says(in = "Promise 8", words = "Returns how many words it had")
    static void p08_returns_how_many_words_it_had() {
        Check.due("1 word", Check.with("a").burn(0), 1);
        Check.due("2 words", Check.with("a9b9").burn(0), 2);
        Check.due("150 words", World.longest().burn(0), 150);
    }

    @Says(in = "Promise 8", words = "NO_SUCH if there is no such story.")
    static void p08_NO_SUCH_story() {
        Boundary.noStory("burn", (x, story) -> x.burn(story));
    }
}
