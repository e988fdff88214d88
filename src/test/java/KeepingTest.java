/** Promises 19 to 24: texts, undo, and saved states. */
public final class KeepingTest {
    private static final int BAD_VALUE = -2, TOO_MANY = -4, NOT_POSSIBLE = -5, NONE = -6;
    private static final int LIMIT = 0, SPARK = 1;

    public static void main(String[] args) {
        put();
        wipe();
        fault();
        undo();
        undoOfEachChange();
        undoOfFizzles();
        save();
        restore();
        Check.end();
    }

    private static void put() {
        HeatedStories x = new HeatedStories();
        long[] bad = {0, 32, 127, 128, 255, 256, 0x6100L, 0x610061L, 0x2061L, 0x6120L, 0x7f61L, -1, Long.MIN_VALUE,
            Long.MAX_VALUE, 0x8061616161616161L, 0x2061616161616161L, 0x6161616161616100L, 0x6100616161616161L,
            0x100000000L, 0x6100000000000000L};
        for (long characters : bad) {
            Check.due("put(" + characters + ")", x.put(characters), BAD_VALUE);
        }
        Check.due("the pad stays empty", x.count(11), 0);
        Check.due("the lowest code", x.put(33), 1);
        Check.due("the highest code", x.put(126), 2);
        Check.due("eight", x.put(0x7e7e7e7e7e7e7e7eL), 10);
        x.wipe();
        Check.due("two", x.put(Check.coded("ab")), 2);
        Check.due("three", x.put(Check.coded("9/c")), 5);
        x.write();
        Check.shows("in their order", x, "ab9/c");
        Check.due("put is no change", x.count(12), 1);
        for (int times = 1; times <= 7; times++) {
            Check.due("eight more", x.put(Check.coded("abcdefgh")), 8 * times);
        }
        Check.due("61", x.put(Check.coded("abcde")), TOO_MANY);
        Check.due("the codes are checked first", x.put(0x6161616120L), BAD_VALUE);
        Check.due("60", x.put(Check.coded("abcd")), 60);
        Check.due("61 again", x.put('a'), TOO_MANY);
        Check.due("60 are written", x.write(), 3);
        Check.due("60 are written", x.story(2, 0), 60);
    }

    private static void wipe() {
        HeatedStories x = Check.with("ab");
        Check.due("wipe of nothing", x.wipe(), 0);
        Check.type(x, "xyz/");
        Check.due("wipe", x.wipe(), 4);
        Check.due("the pad is empty", x.count(11), 0);
        Check.due("the pad is empty", x.fault(), 0);
        Check.due("no change", x.count(12), 1);
        Check.shows("the stories stay", x, "ab");
    }

    private static void fault() {
        String[] texts = {"a", "z", "ab", "a1", "a9", "a10", "a99b", "a1/b", "a/b/c", "a12/b3c", "az9/z",
            "", "a/", "/", "/a", "1", "0", "a0", "a01", "a100", "a1000", "a123b", "a//b", "a/1", "A", "aB", "a{", "`",
            "a-1", "a1.", "a/b/", "a1/b22/c333", "ab:", "a1:", "!"};
        int[] want = {NONE, NONE, NONE, NONE, NONE, NONE, NONE, NONE, NONE, NONE, NONE,
            0, 2, 0, 0, 0, 0, 1, 1, 3, 3, 3, 2, 2, 0, 1, 1, 0,
            1, 2, 4, 10, 2, 2, 0};
        Check.due("as many texts as faults", texts.length, want.length);
        for (int index = 0; index < texts.length; index++) {
            HeatedStories x = new HeatedStories();
            Check.type(x, texts[index]);
            Check.due("fault of " + texts[index], x.fault(), want[index]);
            Check.due("the pad stays", x.count(11), texts[index].length());
        }
        HeatedStories x = new HeatedStories();
        Check.type(x, "abcdefghijabcdefghijabcdefghijabcdefghijabcdefghijabcdefgh9/");
        Check.due("a full pad that ends too early", x.fault(), 60);
    }

    private static void undo() {
        HeatedStories x = new HeatedStories();
        Check.due("undo of nothing", x.undo(), NOT_POSSIBLE);
        for (int value = 10; value < 20; value++) {
            x.set(LIMIT, value);
        }
        Check.due("at most 6", x.count(12), 6);
        for (int left = 5; left >= 0; left--) {
            Check.due("undo", x.undo(), left);
            Check.due("the LIMIT before", x.count(8), 13 + left);
        }
        Check.due("the oldest are dropped", x.undo(), NOT_POSSIBLE);
        Check.due("the oldest are dropped", x.count(8), 13);
        x.set(LIMIT, 13);
        Check.due("what changes nothing counts", x.count(12), 1);
        x.set(LIMIT, 30);
        x.undo();
        x.set(SPARK, 0);
        Check.due("undo, then on", x.count(12), 2);
        Check.due("undo, then on", x.undo(), 1);
        Check.due("SPARK before", x.count(9), 3);
        Check.due("LIMIT before", x.count(8), 13);
    }

    private static void undoOfEachChange() {
        HeatedStories x = Check.with("ab18c18/a1/d5");
        String before = "ab18c18/a1/d5";
        x.save(0);
        x.set(LIMIT, 20);
        x.heat(0, 1, 2);
        Check.due("splits", x.count(4), 2);
        Check.due("undo of heat", x.undo(), 2);
        Check.shows("undo of heat", x, before);
        Check.due("splits so far, too", x.count(4), 0);
        x.heat(1, 0, 30);
        Check.due("boilings", x.count(5), 1);
        x.undo();
        Check.due("boilings so far, too", x.count(5), 0);
        x.read(0, 20);
        x.undo();
        Check.shows("undo of read", x, before);
        x.fuse(0, 1);
        // ab18c21a4: c splits it, then b does
        Check.shows("fuse", x, "a3/b/ca7/d5");
        Check.due("generations", x.count(7), 2);
        x.undo();
        Check.shows("undo of fuse", x, before);
        Check.due("generations, too", x.count(7), 0);
        x.pass(2);
        x.undo();
        Check.shows("undo of pass", x, before);
        x.burn(0);
        x.undo();
        Check.shows("undo of burn", x, before);
        x.burn(0);
        x.restore(0);
        Check.shows("restore", x, before);
        x.undo();
        Check.shows("undo of restore", x, "a1/d5");
        x.undo();
        Check.type(x, "pq");
        x.write();
        Check.type(x, "rst");
        x.undo();
        Check.shows("undo of write", x, before);
        Check.due("the pad is not undone", x.count(11), 3);
        x.write();
        Check.due("the families are", x.story(3, 3), 3);
        x.undo();
        x.undo();
        x.undo();
        Check.shows("undo of all", x, "");
        Check.due("the slots are not undone", x.restore(0), 3);
        Check.shows("the slots are not undone", x, before);
    }

    private static void undoOfFizzles() {
        HeatedStories x = Check.with("ab/c/d/e/f/g/h/i/j/k/l/m");
        x.heat(0, 1, 20);
        Check.due("fizzles", x.count(6), 1);
        x.undo();
        Check.due("undo of a fizzle", x.count(6), 0);
        Check.shows("undo of a fizzle", x, "ab/c/d/e/f/g/h/i/j/k/l/m");
    }

    private static void save() {
        HeatedStories x = new HeatedStories();
        Check.due("save(-1)", x.save(-1), BAD_VALUE);
        Check.due("save(2)", x.save(2), BAD_VALUE);
        Check.due("save of nothing", x.save(1), 0);
        Check.due("no change", x.count(12), 0);
        Check.type(x, "a/b");
        x.write();
        Check.due("save(0)", x.save(0), 2);
        x.burn(0);
        Check.due("save(0) again", x.save(0), 1);
        x.burn(0);
        Check.due("what was saved last", x.restore(0), 1);
        Check.shows("what was saved last", x, "b");
        Check.due("the other slot", x.restore(1), 0);
        Check.due("changes", x.count(12), 5);
    }

    private static void restore() {
        HeatedStories x = Check.with("ab18/c");
        int[] none = {-1, 2, Integer.MAX_VALUE, Integer.MIN_VALUE};
        for (int slot : none) {
            Check.due("restore(" + slot + ")", x.restore(slot), BAD_VALUE);
        }
        Check.due("nothing saved", x.restore(0), NOT_POSSIBLE);
        x.save(1);
        Check.due("nothing saved there", x.restore(0), NOT_POSSIBLE);
        Check.due("errors are no changes", x.count(12), 1);
        x.set(LIMIT, 15);
        x.set(SPARK, 1);
        x.heat(0, 1, 1);
        Check.type(x, "xy");
        Check.due("restore", x.restore(1), 2);
        Check.shows("restore", x, "ab18/c");
        Check.due("the settings, too", x.count(8), 20);
        Check.due("the settings, too", x.count(9), 3);
        Check.due("the splits, too", x.count(4), 0);
        Check.due("not the pad", x.count(11), 2);
        Check.due("not the history", x.count(12), 5);
        x.write();
        Check.due("the families, too", x.story(2, 3), 2);
        x.burn(0);
        Check.due("the slot keeps it", x.restore(1), 2);
        Check.shows("the slot keeps it", x, "ab18/c");
        x.heat(0, 0, 1);
        x.restore(1);
        Check.shows("changes do not reach the slot", x, "ab18/c");
    }
}
