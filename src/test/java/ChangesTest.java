/** Promises 1 to 8: a new object and the changes. */
public final class ChangesTest {
    private static final int NO_SUCH = -1, BAD_VALUE = -2, BAD_TEXT = -3, TOO_MANY = -4, NOT_POSSIBLE = -5, NONE = -6;
    private static final int LIMIT = 0, SPARK = 1, COOL = 2;

    public static void main(String[] args) {
        newObject();
        set();
        write();
        writeTooMany();
        heat();
        heatEdges();
        reactionsInOrder();
        fizzles();
        read();
        fuse();
        fuseReacts();
        pass();
        burn();
        Check.end();
    }

    private static void newObject() {
        HeatedStories x = new HeatedStories();
        int[] want = {0, 0, 0, 0, 0, 0, 0, NONE, 20, 3, 2, 0, 0};
        for (int what = 0; what < want.length; what++) {
            Check.due("new: count(" + what + ")", x.count(what), want[what]);
        }
        Check.due("new: undo()", x.undo(), NOT_POSSIBLE);
        Check.due("new: restore(0)", x.restore(0), NOT_POSSIBLE);
        Check.due("new: fault()", x.fault(), 0);
        HeatedStories other = Check.with("ab");
        other.set(LIMIT, 50);
        Check.due("new: another object's stories", x.count(0), 0);
        Check.due("new: another object's LIMIT", x.count(8), 20);
    }

    private static void set() {
        HeatedStories x = new HeatedStories();
        int[][] ranges = {{LIMIT, 10, 99, 20}, {SPARK, 0, 4, 3}, {COOL, 0, 20, 2}};
        for (int[] range : ranges) {
            Check.due("set below " + range[0], x.set(range[0], range[1] - 1), BAD_VALUE);
            Check.due("set above " + range[0], x.set(range[0], range[2] + 1), BAD_VALUE);
            Check.due("count behind bad set", x.count(8 + range[0]), range[3]);
            Check.due("set lowest " + range[0], x.set(range[0], range[1]), range[3]);
            Check.due("set highest " + range[0], x.set(range[0], range[2]), range[1]);
            Check.due("count behind set", x.count(8 + range[0]), range[2]);
        }
        Check.due("six changes", x.count(12), 6);
        int[] none = {-1, 3, Integer.MIN_VALUE, Integer.MAX_VALUE};
        for (int setting : none) {
            Check.due("set(" + setting + ", 10)", x.set(setting, 10), BAD_VALUE);
        }
        Check.due("set to the most", x.set(LIMIT, Integer.MAX_VALUE), BAD_VALUE);
        Check.due("set to the least", x.set(COOL, Integer.MIN_VALUE), BAD_VALUE);
        x = Check.with("a15b15");
        Check.due("a lower LIMIT", x.set(LIMIT, 10), 20);
        Check.shows("no reactions by set", x, "a15b15");
        Check.due("a bad set is no change", x.set(LIMIT, 9) + x.count(12), BAD_VALUE + 2);
    }

    private static void write() {
        HeatedStories x = new HeatedStories();
        Check.due("write of nothing", x.write(), BAD_TEXT);
        Check.type(x, "ab/");
        Check.due("write with a fault", x.write(), BAD_TEXT);
        Check.due("the pad stays", x.count(11), 3);
        Check.due("no change", x.count(12), 0);
        Check.type(x, "c9z1");
        Check.due("write", x.write(), 2);
        Check.due("the pad is empty", x.count(11), 0);
        Check.shows("written", x, "ab/c9z1");
        Check.due("family 0", x.story(0, 3), 0);
        Check.due("family 1", x.story(1, 3), 1);
        Check.due("generation 0", x.story(1, 4), 0);
        x.burn(1);
        Check.type(x, "q19");
        Check.due("write behind", x.write(), 2);
        Check.due("the next family is new", x.story(1, 3), 2);
        Check.due("undo", x.undo(), 2);
        Check.type(x, "qr/s");
        Check.due("write again", x.write(), 3);
        Check.due("families behind undo", x.story(1, 3), 2);
        Check.due("families behind undo", x.story(2, 3), 3);
        Check.type(x, "ab99c");
        Check.due("write that splits", x.write(), 5);
        Check.shows("split when written", x, "ab/qr/s/a3/bc3");
        Check.due("a split keeps the family", x.story(4, 3), 4);
        Check.due("a split is a generation on", x.story(4, 4), 1);
        Check.due("one split", x.count(4), 1);
        x.burn(4);
        Check.type(x, "d");
        x.write();
        Check.due("a new story is of generation 0", x.story(4, 4), 0);
        x = Check.with("a15b15");
        x.set(LIMIT, 10);
        Check.type(x, "c");
        Check.due("hot stories react when others are written", x.write(), 3);
        Check.shows("hot stories", x, "a3/b/c");
    }

    private static void writeTooMany() {
        HeatedStories x = Check.with("a/a/a/a/a/a/a/a/a/a/a");
        Check.type(x, "b/c");
        Check.due("13 stories", x.write(), TOO_MANY);
        Check.due("the pad stays", x.wipe(), 3);
        Check.due("no change", x.count(12), 1);
        Check.type(x, "bb99b99");
        Check.due("12 stories", x.write(), 12);
        Check.due("both fizzle", x.count(6), 2);
        Check.type(x, "b");
        Check.due("13 stories again", x.write(), TOO_MANY);
        Check.type(x, "/");
        Check.due("a fault is checked first", x.write(), BAD_TEXT);

        String sixty = "abcdefghijabcdefghijabcdefghijabcdefghijabcdefghijabcdefghij";
        x = Check.with(sixty);
        Check.type(x, sixty);
        Check.due("120 words", x.write(), 2);
        Check.type(x, sixty.substring(0, 31));
        Check.due("151 words", x.write(), TOO_MANY);
        Check.due("151 words change nothing", x.count(1), 120);
        x.wipe();
        Check.type(x, sixty.substring(0, 28) + "i10j");
        Check.due("digits are no words", x.count(11), 32);
        Check.due("150 words", x.write(), 3);
        Check.due("150 words are there", x.count(1), 150);
        Check.type(x, "a");
        Check.due("one word more", x.write(), TOO_MANY);
        Check.due("a reaction among 150", x.heat(2, 29, 20), 1);
        Check.due("the last word", x.word(3, 0, 0), 9);
        Check.due("one story less, as it burns", x.burn(0), 60);
        Check.due("then a word has room", x.write(), 4);
    }

    private static void heat() {
        HeatedStories x = Check.with("abcde");
        Check.due("heat", x.heat(0, 2, 19), 0);
        Check.shows("not too hot", x, "abc19de");
        Check.due("heat to LIMIT", x.heat(0, 2, 1), 1);
        Check.shows("split", x, "ab3/cd3e");
        Check.due("generation of what is ahead", x.story(0, 4), 0);
        Check.due("generation of what is behind", x.story(1, 4), 1);
        Check.due("heat of a last word", x.heat(1, 2, 20), 1);
        Check.shows("split at the last", x, "ab3/cd6/e");
        Check.due("generation", x.story(2, 4), 2);
        Check.due("heat of a first word", x.heat(0, 0, 500), 1);
        Check.shows("boiled", x, "ab6/cd6/e");
        Check.due("boilings", x.count(5), 1);
        Check.due("a story of one word", x.heat(2, 0, 500), 1);
        Check.shows("boiled alone", x, "ab6/cd6/e");
        Check.due("a split in the middle", x.heat(0, 1, 14), 1);
        Check.shows("stories move up", x, "a3/b/cd6/e");
        Check.due("families", x.count(3), 1);
        Check.due("generation of the moved", x.story(3, 4), 2);
    }

    private static void heatEdges() {
        HeatedStories x = Check.with("ab/c");
        int[][] noSuch = {{-1, 0}, {2, 0}, {0, -1}, {0, 2}, {1, 1}, {Integer.MAX_VALUE, 0}, {Integer.MIN_VALUE, 0},
            {0, Integer.MAX_VALUE}, {0, Integer.MIN_VALUE}};
        for (int[] bad : noSuch) {
            Check.due("heat of no word", x.heat(bad[0], bad[1], 1), NO_SUCH);
            Check.due("heat of no word, badly", x.heat(bad[0], bad[1], 0), NO_SUCH);
        }
        int[] badBy = {0, -1, 501, Integer.MAX_VALUE, Integer.MIN_VALUE};
        for (int by : badBy) {
            Check.due("heat by " + by, x.heat(0, 0, by), BAD_VALUE);
        }
        Check.due("errors are no changes", x.count(12), 1);
        Check.shows("errors change nothing", x, "ab/c");
        x.set(LIMIT, 99);
        x.set(SPARK, 0);
        x.heat(0, 1, 98);
        Check.due("98 of 99", x.count(2), 98);
        Check.due("99 of 99", x.heat(0, 1, 1), 1);
        Check.shows("no sparks", x, "a/b/c");
        Check.due("a change each", x.count(12), 5);
    }

    private static void reactionsInOrder() {
        HeatedStories x = Check.with("ab18c18d/ef18");
        x.set(LIMIT, 18);
        Check.due("all hot words", x.heat(1, 0, 1), 3);
        // b: a3/b c21 d, then c: b3/c d3, then f
        Check.shows("all hot words", x, "a3/b3/cd3/e4/f");
        Check.due("splits", x.count(4), 3);
        Check.due("boilings", x.count(5), 0);

        x = new HeatedStories();
        x.set(LIMIT, 12);
        x.set(SPARK, 4);
        Check.type(x, "y11x11x11y");
        x.write();
        // x: y15/x x15 y, then y boils alone, then the other x: x4/x y4
        Check.due("sparks go back, too", x.heat(0, 1, 1), 3);
        Check.shows("sparks go back, too", x, "y/x4/xy4");
        Check.due("splits", x.count(4), 2);
        Check.due("boilings", x.count(5), 1);

        x = new HeatedStories();
        x.set(LIMIT, 12);
        x.set(SPARK, 4);
        Check.type(x, "p/p/p/p/p/p/p/p/p/p/p/x11x11x11x8x");
        x.write();
        // 11 15 0 12 0, then 15 0 4 12 0, then 0 4 4 12 0, then 0 4 8 0 4
        Check.due("back to the first word, then on", x.heat(11, 2, 1), 4);
        Check.shows("back to the first word, then on", x, "p/p/p/p/p/p/p/p/p/p/p/xx4x8xx4");
        Check.due("fizzles", x.count(6), 3);
        Check.due("boilings", x.count(5), 1);
    }

    private static void fizzles() {
        HeatedStories x = Check.with("abc/b/b/b/b/b/b/b/b/b/b/b");
        Check.due("fizzle", x.heat(0, 1, 20), 1);
        Check.shows("fizzle", x, "a3bc3/b/b/b/b/b/b/b/b/b/b/b");
        Check.due("fizzles", x.count(6), 1);
        Check.due("a first word boils all the same", x.heat(0, 0, 17), 1);
        Check.due("boilings", x.count(5), 1);
        Check.shows("boiled", x, "ab3c3/b/b/b/b/b/b/b/b/b/b/b");
        x.burn(11);
        Check.due("room again", x.heat(0, 1, 17), 1);
        Check.shows("split", x, "a3/bc6/b/b/b/b/b/b/b/b/b/b");
        Check.due("splits", x.count(4), 1);
    }

    private static void read() {
        HeatedStories x = Check.with("abc/d");
        Check.due("read", x.read(0, 19), 0);
        Check.shows("read", x, "a19b19c19/d");
        // a boils and heats b, b splits (c has 22), and c is no neighbour of b's first story: it splits
        Check.due("read to LIMIT", x.read(0, 1), 3);
        Check.shows("read to LIMIT", x, "a3/b3/c/d");
        Check.due("read of no story", x.read(4, 1), NO_SUCH);
        Check.due("read of no story", x.read(-1, 0), NO_SUCH);
        Check.due("read by 0", x.read(0, 0), BAD_VALUE);
        Check.due("read by 51", x.read(0, 51), BAD_VALUE);
        Check.due("read by 50", x.read(3, 50), 1);
        Check.due("changes", x.count(12), 4);

        x = Check.with("ab");
        x.set(LIMIT, 99);
        x.read(0, 50);
        Check.due("read to 100", x.read(0, 50), 2);
        Check.shows("each word of it", x, "a3/b");
    }

    private static void fuse() {
        HeatedStories x = Check.with("ab1a/b8/c2aa/d9e7");
        int[][] noSuch = {{-1, 0}, {0, -1}, {4, 0}, {0, 4}, {4, 4}};
        for (int[] bad : noSuch) {
            Check.due("fuse of no story", x.fuse(bad[0], bad[1]), NO_SUCH);
        }
        Check.due("fuse with itself", x.fuse(0, 0), BAD_VALUE);
        Check.due("fuse of unlike themes", x.fuse(0, 1), NOT_POSSIBLE);
        Check.due("errors are no changes", x.count(12), 1);
        Check.due("fuse", x.fuse(0, 2), 0);
        Check.shows("fuse", x, "ab1a3c5aa/b8/d9e7");
        Check.due("the family of the first", x.story(0, 3), 0);
        Check.due("a generation more", x.story(0, 4), 1);
        Check.due("the others keep theirs", x.story(2, 3), 3);
        Check.due("the others keep theirs", x.story(2, 4), 0);
        x.undo();
        Check.due("fuse, the other way round", x.fuse(2, 0), 0);
        Check.shows("fuse, the other way round", x, "b8/c2aa3a3b1a/d9e7");
        Check.due("the family of the first", x.story(1, 3), 2);
        Check.due("a generation more", x.story(1, 4), 1);
        Check.due("the others keep theirs", x.story(0, 3), 1);

        x = Check.with("aa/aa");
        x.heat(0, 1, 20);
        Check.due("generations 0, 1, 0", x.story(1, 4), 1);
        x.fuse(2, 1);
        Check.shows("behind it", x, "a3/aa3a3");
        Check.due("one more than the second's", x.story(1, 4), 2);
        x.fuse(1, 0);
        Check.shows("one story", x, "aa3a6a6");
        Check.due("one more than the first's", x.story(0, 4), 3);
        Check.due("no other story", x.count(0), 1);
    }

    private static void fuseReacts() {
        HeatedStories x = Check.with("a/ba18/b/a18b");
        Check.due("fuse with reactions", x.fuse(1, 3), 2);
        // b a21 a21 b: a splits (b3 / a a24 b), then the next one does (a3 / a b3)
        Check.shows("fuse with reactions", x, "a/b3/a3/ab3/b");
        Check.due("the generations go on from the fused one's", x.story(3, 4), 3);
        x = Check.with("a17/a17/c19");
        x.set(SPARK, 0);
        x.set(LIMIT, 19);
        Check.due("others react, too", x.fuse(0, 1), 1);
        Check.shows("others react, too", x, "a17a17/c");
    }

    private static void pass() {
        HeatedStories x = Check.with("a9b1/c5");
        Check.due("pass(0)", x.pass(0), BAD_VALUE);
        Check.due("pass(31)", x.pass(31), BAD_VALUE);
        Check.due("pass(-1)", x.pass(-1), BAD_VALUE);
        Check.due("errors are no changes", x.count(12), 1);
        Check.due("pass(1)", x.pass(1), 10);
        Check.shows("pass(1)", x, "a7b/c3");
        Check.due("pass(2)", x.pass(2), 3);
        Check.shows("pass(2)", x, "a3b/c");
        x.set(COOL, 0);
        Check.due("pass without COOL", x.pass(30), 3);
        x.set(COOL, 20);
        Check.due("pass with the most", x.pass(30), 0);
        x = Check.with("a15b");
        x.set(LIMIT, 10);
        Check.due("no reactions by pass", x.pass(1), 13);
        Check.shows("no reactions by pass", x, "a13b");
        x = new HeatedStories();
        Check.due("pass without stories", x.pass(1), 0);
        Check.due("is a change", x.count(12), 1);
    }

    private static void burn() {
        HeatedStories x = Check.with("ab2/c3de/f");
        Check.due("burn(-1)", x.burn(-1), NO_SUCH);
        Check.due("burn(3)", x.burn(3), NO_SUCH);
        Check.due("errors are no changes", x.count(12), 1);
        Check.due("burn(1)", x.burn(1), 3);
        Check.shows("burn(1)", x, "ab2/f");
        Check.due("families move up", x.story(1, 3), 2);
        x.undo();
        Check.due("burn(0)", x.burn(0), 2);
        Check.shows("burn(0)", x, "c3de/f");
        Check.due("burn(1)", x.burn(1), 1);
        Check.due("burn(0)", x.burn(0), 3);
        Check.due("no story", x.burn(0), NO_SUCH);
        Check.due("no story", x.count(0), 0);
        Check.due("no word", x.count(1), 0);
    }
}
