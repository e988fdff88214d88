/** A test for each sentence of promises 19 to 24 that names a boundary case. */
public final class BoundariesOfKeepingTest {
    private static final int BAD_VALUE = -2, BAD_TEXT = -3, TOO_MANY = -4, NOT_POSSIBLE = -5, NONE = -6;
    private static final int LIMIT = 0, SPARK = 1, COOL = 2;
    private static final int[] NO_SLOTS = {-1, 2, Integer.MIN_VALUE, Integer.MAX_VALUE};

    public static void main(String[] args) throws ReflectiveOperationException {
        Boundary.run(BoundariesOfKeepingTest.class);
    }

    // ---- promise 19: put

    @Says(in = "Promise 19", words = "its lowest 8 bits are the last character, the next 8 bits the one before, and so on")
    static void p19_the_lowest_8_bits_are_the_last_character() {
        HeatedStories x = new HeatedStories();
        Check.due("bc2", x.put('b' << 16 | 'c' << 8 | '2'), 3);
        Check.due("d3efg", x.put(Check.coded("d3efg")), 8);
        x.write();
        Check.shows("the characters in their order", x, "bc2d3efg");
        Check.due("a", x.put('a'), 1);
        Check.due("eight characters behind it", x.put(Check.coded("9/b8c7d6")), 9);
        Check.due("written", x.write(), 3);
        Check.shows("eight characters in their order", x, "bc2d3efg/a9/b8c7d6");
    }

    @Says(in = "Promise 19", words = {"`characters`: 1 to 8 characters", "Returns the length of the pad then"})
    static void p19_1_to_8_characters_and_the_length_then() {
        String text = "abcdefgh";
        for (int length = 1; length <= 8; length++) {
            HeatedStories x = new HeatedStories();
            Check.due(length + " characters", x.put(Check.coded(text.substring(0, length))), length);
            Check.due("the length of the pad", x.count(11), length);
            x.write();
            Check.shows(length + " characters", x, text.substring(0, length));
        }
        HeatedStories x = new HeatedStories();
        for (int length = 8; length <= 56; length += 8) {
            Check.due("8 characters more", x.put(Check.coded(text)), length);
        }
        Check.due("4 characters more", x.put(Check.coded("abcd")), 60);
    }

    @Says(in = "Promise 19", words = "BAD_VALUE if there is no character")
    static void p19_BAD_VALUE_no_character() {
        Boundary.changesNothing("put(0)", x -> x.put(0), BAD_VALUE);
    }

    @Says(in = "Promise 19", words = "a code is not 33 to 126")
    static void p19_BAD_VALUE_a_code_is_not_33_to_126() {
        for (int place = 0; place < 8; place++) {
            long others = Check.coded("aaaaaaaa") & ~(255L << 8 * place);
            for (int code : new int[] {32, 127, 1, 128, 255, 161}) {
                long characters = others | (long) code << 8 * place;
                Boundary.changesNothing("put of code " + code + " at " + place, x -> x.put(characters), BAD_VALUE);
            }
            for (int code : new int[] {33, 126}) {
                HeatedStories x = new HeatedStories();
                Check.due("code " + code + " at " + place, x.put(others | (long) code << 8 * place), 8);
                Check.due("fault of code " + code + " at " + place, x.fault(), 7 - place);
            }
        }
        for (int code : new int[] {32, 127, 1, 128, 255}) {
            Boundary.changesNothing("put of code " + code, x -> x.put(code), BAD_VALUE);
        }
        for (int code = 33; code <= 126; code++) {
            Check.due("put of code " + code, new HeatedStories().put(code), 1);
        }
        Boundary.changesNothing("put(-1)", x -> x.put(-1), BAD_VALUE);
        Boundary.changesNothing("put of the least number", x -> x.put(Long.MIN_VALUE), BAD_VALUE);
        Boundary.changesNothing("put of the greatest number", x -> x.put(Long.MAX_VALUE), BAD_VALUE);
    }

    @Says(in = "Promise 19", words = {"8 bits that are 0 mean that there are no more characters, and everything above them has to be 0, too", "or a bit above 8 bits that are 0 is not 0"})
    static void p19_BAD_VALUE_a_bit_above_8_bits_that_are_0() {
        for (int gap = 0; gap < 7; gap++) {
            long below = Check.coded("aaaaaaaa") & (1L << 8 * gap) - 1;
            for (int bit = 8 * gap + 8; bit < 64; bit++) {
                long characters = below | 1L << bit;
                HeatedStories x = new HeatedStories();
                Check.due("bit " + bit + " above a gap at " + gap, x.put(characters), BAD_VALUE);
                Check.due("the pad", x.count(11), 0);
            }
            long characters = below | (long) 'a' << 8 * gap + 8;
            Boundary.changesNothing("a character above a gap at " + gap, x -> x.put(characters), BAD_VALUE);
        }
        Boundary.changesNothing("the highest bit above a gap", x -> x.put('a' | 1L << 63), BAD_VALUE);
    }

    @Says(in = "Promise 19", words = "TOO_MANY if the pad would be longer than 60.")
    static void p19_TOO_MANY_longer_than_60() {
        for (int length = 53; length <= 60; length++) {
            String before = World.sixty().substring(0, length);
            for (int added = 1; added <= 8; added++) {
                long characters = Check.coded("abcdefgh".substring(0, added));
                String call = "put of " + added + " behind " + length;
                if (length + added > 60) {
                    Boundary.changesNothing(World.YOUNG.with(before), call, x -> x.put(characters), TOO_MANY);
                } else {
                    Check.due(call, World.YOUNG.with(before).get().put(characters), length + added);
                }
            }
        }
        String most = World.sixty();
        Boundary.changesNothing(World.NEW.with(most), "put(0) to a full pad", x -> x.put(0), BAD_VALUE);
        Boundary.changesNothing(World.NEW.with(most), "a bad code to a full pad", x -> x.put(127), BAD_VALUE);
        Boundary.changesNothing(World.NEW.with(most), "a gap to a full pad", x -> x.put('a' << 16 | 'a'), BAD_VALUE);
    }

    // ---- promise 20: wipe

    @Says(in = "Promise 20", words = "Empties the pad, and returns the length that it had.")
    static void p20_of_0_of_1_and_of_60_characters() {
        HeatedStories x = new HeatedStories();
        Check.due("an empty pad", x.wipe(), 0);
        x.put('a');
        Check.due("one character", x.wipe(), 1);
        Check.due("nothing is left", x.wipe(), 0);
        Check.due("nothing is left", x.count(11), 0);
        Check.due("nothing can be written", x.write(), BAD_TEXT);
        Check.type(x, World.sixty());
        Check.due("a full pad", x.wipe(), 60);
        Check.due("there is room again", x.put(Check.coded("abcdefgh")), 8);
        Check.due("no changes", x.count(12), 0);
        x.write();
        Check.shows("only what came behind", x, "abcdefgh");
    }

    // ---- promise 21: fault

    @Says(in = "Promise 21", words = "Returns the fault of the pad, NONE if there is none.")
    static void p21_NONE_or_0_to_60() {
        String most = World.sixty().substring(0, 59);
        String[] texts = {"a", "a99/z", most + "k", "", "A", "a/", "a0", most + "!", most + "/"};
        int[] due = {NONE, NONE, NONE, 0, 0, 2, 1, 59, 60};
        for (int at = 0; at < texts.length; at++) {
            Check.due("fault of \"" + texts[at] + "\"", Check.faultOf(texts[at]), due[at]);
            for (World world : new World[] {World.YOUNG, World.FULL}) {
                String call = "fault of \"" + texts[at] + "\" in " + world;
                Boundary.changesNothing(world.with(texts[at]), call, x -> x.fault(), due[at]);
            }
        }
    }

    // ---- promise 22: undo

    @Says(in = "Promise 22", words = "everything except the pad, the slots and the history is as it was before it.")
    static void p22_all_but_the_pad_the_slots_and_the_history() {
        HeatedStories x = Check.with("ab19/c");
        x.set(LIMIT, 10);
        x.set(SPARK, 0);
        x.set(COOL, 20);
        Check.type(x, "d10/e");
        x.write();
        x.save(1);
        Check.type(x, "xyz");
        Check.due("undo of write", x.undo(), 4);
        Check.shows("the stories, with their heat", x, "ab19/c");
        Check.due("splits", x.count(4), 0);
        Check.due("boilings", x.count(5), 0);
        Check.due("the pad stays as it is", x.count(11), 3);
        Check.due("undo of COOL", x.undo(), 3);
        Check.due("COOL", x.count(10), 2);
        Check.due("undo of SPARK", x.undo(), 2);
        Check.due("SPARK", x.count(9), 3);
        Check.due("undo of LIMIT", x.undo(), 1);
        Check.due("LIMIT", x.count(8), 20);
        Check.due("the next family", x.write() * 10 + x.story(2, 3), 32);
        Check.due("the slot keeps what was saved behind the change", x.restore(1), 5);
        Check.shows("the slot", x, "a/b/c/d/e");
        Check.due("the slot's settings", x.count(8) + x.count(9) + x.count(10), 30);
        Boundary.isAChange(() -> fizzled(), "a fizzle", y -> y.heat(0, 1, 30), 1);
        Boundary.isAChange(() -> fizzled(), "a restore behind a fizzle", y -> y.restore(0), 12);
    }

    private static HeatedStories fizzled() {
        HeatedStories x = Check.with("abc/d/e/f/g/h/i/j/k/l/m/n");
        x.save(0);
        x.heat(0, 0, 20);
        x.heat(0, 1, 17);
        return x;
    }

    @Says(in = "Promise 22", words = "A history of at most 6 states is kept")
    static void p22_at_most_6_states() {
        for (int changes = 0; changes <= 14; changes++) {
            HeatedStories x = new HeatedStories();
            for (int change = 1; change <= changes; change++) {
                x.set(LIMIT, 20 + change);
            }
            int kept = Math.min(6, changes);
            Check.due(changes + " changes can be undone", x.count(12), kept);
            for (int undone = 1; undone <= kept; undone++) {
                Check.due("undo " + undone + " of " + changes, x.undo(), kept - undone);
                Check.due("LIMIT behind undo " + undone + " of " + changes, x.count(8), 20 + changes - undone);
            }
            Check.due("one undo more of " + changes, x.undo(), NOT_POSSIBLE);
            Check.due("LIMIT behind it", x.count(8), 20 + changes - kept);
        }
    }

    @Says(in = "Promise 22", words = "each method that is a change, and returns no error, records the state before it (also if nothing is different then)")
    static void p22_each_change_records_also_if_nothing_is_different() {
        Boundary.isAChange("set to the same", x -> x.set(COOL, 2), 2);
        Boundary.isAChange("write", x -> x.put('q') + x.write(), 1 + 4);
        Boundary.isAChange("heat", x -> x.heat(0, 1, 1), 0);
        Boundary.isAChange("read", x -> x.read(1, 50), 2);
        Boundary.isAChange("fuse", x -> x.fuse(1, 0), 0);
        Boundary.isAChange("pass", x -> x.pass(30), 0);
        Boundary.isAChange("burn", x -> x.burn(1), 2);
        Boundary.isAChange("restore of the same", x -> x.restore(1), 3);
        Boundary.isAChange(World.NEW, "pass of nothing", x -> x.pass(1), 0);
        HeatedStories cool = new HeatedStories();
        cool.set(COOL, 0);
        cool.pass(30);
        Check.due("pass without COOL", cool.count(12), 2);
    }

    @Says(in = "Promise 22", words = "each method that is a change")
    static void p22_methods_that_are_no_changes_record_nothing() {
        HeatedStories x = World.YOUNG.get();
        x.put('a');
        x.fault();
        x.wipe();
        x.save(0);
        x.save(1);
        Check.due("texts and saving", x.count(12), 1);
        x.word(0, 0, 0);
        x.story(0, 0);
        x.count(0);
        x.letter(0, 0);
        x.sideBySide(0, 0, 0);
        x.common(0, 1);
        Check.due("what there is", x.count(12), 1);
        x.ifHeated(0, 0, 500, 0);
        x.critical(0, 0);
        x.touchiest(500, 0);
        x.coolestPair(0);
        Check.due("what if", x.count(12), 1);
        x.pass(1);
        Check.due("undo", x.undo(), 1);
        Check.due("undo cannot be undone", x.count(12), 1);
        Check.due("undo", x.undo(), 0);
        Check.due("no stories", x.count(0), 0);
    }

    @Says(in = "Promise 22", words = "when one more is recorded, the oldest one is dropped.")
    static void p22_the_oldest_one_is_dropped() {
        HeatedStories x = Check.with("a");
        for (int change = 1; change <= 6; change++) {
            x.heat(0, 0, 1);
        }
        Check.due("6 of 7 changes", x.count(12), 6);
        for (int left = 5; left >= 0; left--) {
            Check.due("undo", x.undo(), left);
            Check.due("heat", x.word(0, 0, 1), left);
        }
        Check.due("the write is dropped", x.undo(), NOT_POSSIBLE);
        Check.due("the story stays", x.count(0), 1);
        // changes and undos by turns: the ring of states goes round
        for (int turn = 1; turn <= 5; turn++) {
            for (int change = 1; change <= 7; change++) {
                x.heat(0, 0, 1);
            }
            for (int undo = 1; undo <= 5; undo++) {
                Check.due("undo " + undo + " of turn " + turn, x.undo(), 6 - undo);
            }
            Check.due("heat of turn " + turn, x.word(0, 0, 1), 2 * turn);
        }
        Check.due("the last one that is kept", x.undo(), 0);
        Check.due("heat", x.word(0, 0, 1), 9);
        Check.due("no more", x.undo(), NOT_POSSIBLE);
    }

    @Says(in = "Promise 22", words = "Returns how many changes can be undone then")
    static void p22_returns_how_many_are_left() {
        HeatedStories x = new HeatedStories();
        for (int change = 0; change < 6; change++) {
            x.pass(1);
        }
        for (int left = 5; left >= 0; left--) {
            Check.due("undo", x.undo(), left);
            Check.due("count(12)", x.count(12), left);
        }
    }

    @Says(in = "Promise 22", words = "NOT_POSSIBLE if there is none.")
    static void p22_NOT_POSSIBLE_if_there_is_none() {
        Boundary.changesNothing(World.NEW, "undo of nothing", x -> x.undo(), NOT_POSSIBLE);
        Boundary.changesNothing(World.NEW.with("a/"), "undo of a text", x -> x.undo(), NOT_POSSIBLE);
        for (World world : World.WITH_STORIES) {
            Boundary.changesNothing(() -> undoneAll(world), "undo behind all undos in " + world, x -> x.undo(), NOT_POSSIBLE);
        }
    }

    private static HeatedStories undoneAll(World world) {
        HeatedStories x = world.get();
        for (int undo = 0; undo < 6; undo++) {
            x.undo();
        }
        return x;
    }

    // ---- promise 23: save

    @Says(in = "Promise 23", words = "Saves everything except the pad, the history and the slots in a slot, and overwrites what was saved there.")
    static void p23_overwrites_and_leaves_the_other_slot() {
        HeatedStories x = Check.with("ab1/c");
        x.save(0);
        x.save(1);
        x.heat(0, 1, 19);
        x.set(LIMIT, 99);
        x.save(0);
        x.burn(0);
        x.set(LIMIT, 50);
        Check.type(x, "z");
        Check.due("restore 0", x.restore(0), 3);
        Check.shows("what was saved last", x, "a3/b/c");
        Check.due("its settings", x.count(8), 99);
        Check.due("its splits", x.count(4), 1);
        Check.due("the pad stays", x.count(11), 1);
        Check.due("the history stays", x.count(12), 6);
        Check.due("restore 1", x.restore(1), 2);
        Check.shows("the other slot", x, "ab1/c");
        Check.due("its settings", x.count(8), 20);
        Check.due("its splits", x.count(4), 0);
        Check.due("the families go on behind it", x.write() * 10 + x.story(2, 3), 32);
        x = World.NEW.get();
        x.save(0);
        x.set(LIMIT, 99);
        Check.type(x, "a");
        x.write();
        Check.due("an empty state is saved, too", x.restore(0), 0);
        Check.due("no story", x.count(0), 0);
    }

    @Says(in = "Promise 23", words = "`slot`: 0 or 1")
    static void p23_slot_0_or_1() {
        for (int slot = 0; slot <= 1; slot++) {
            HeatedStories x = Check.with("a/b");
            Check.due("save(" + slot + ")", x.save(slot), 2);
            Check.due("restore(" + (1 - slot) + ")", x.restore(1 - slot), NOT_POSSIBLE);
            Check.due("restore(" + slot + ")", x.restore(slot), 2);
        }
    }

    @Says(in = "Promise 23", words = "Returns how many stories there are")
    static void p23_returns_how_many_stories_there_are() {
        Check.due("none", new HeatedStories().save(0), 0);
        Check.due("one", Check.with("a").save(1), 1);
        Check.due("12", World.twelve().save(0), 12);
    }

    @Says(in = "Promise 23", words = "BAD_VALUE if there is no such slot.")
    static void p23_BAD_VALUE_no_such_slot() {
        for (int slot : NO_SLOTS) {
            Boundary.changesNothing("save(" + slot + ")", x -> x.save(slot), BAD_VALUE);
        }
    }

    // ---- promise 24: restore

    @Says(in = "Promise 24", words = "Restores what was saved last in a slot, which keeps it.")
    static void p24_the_slot_keeps_it() {
        HeatedStories x = World.FULL.get();
        x.save(0);
        for (int time = 1; time <= 3; time++) {
            x.heat(11, 11, 20);
            x.burn(0);
            x.pass(30);
            Check.due("restore, time " + time, x.restore(0), 12);
            Check.due("words, time " + time, x.count(1), 150);
            Check.due("heat, time " + time, x.count(2), 1);
        }
        Check.due("the history is not the slot's", x.count(12), 6);
        Check.due("nor the pad", x.count(11), 60);
        Check.due("undo of restore", x.undo(), 5);
        Check.due("stories ahead of it", x.count(0), 11);
        Check.due("restore behind undo", x.restore(0), 12);
    }

    @Says(in = "Promise 24", words = "This is a change.")
    static void p24_is_a_change() {
        Boundary.isAChange("restore(1)", x -> x.restore(1), 3);
        Boundary.isAChange(World.BUSY, "restore(0)", x -> x.restore(0), 3);
        Boundary.isAChange(World.BUSY, "restore(1)", x -> x.restore(1), 3);
    }

    @Says(in = "Promise 24", words = "`slot`: 0 or 1")
    static void p24_slot_0_or_1() {
        HeatedStories x = Check.with("a");
        x.save(0);
        Check.type(x, "b");
        x.write();
        x.save(1);
        Check.due("restore(0)", x.restore(0), 1);
        Check.shows("slot 0", x, "a");
        Check.due("restore(1)", x.restore(1), 2);
        Check.shows("slot 1", x, "a/b");
    }

    @Says(in = "Promise 24", words = "Returns how many stories there are then")
    static void p24_returns_how_many_stories_there_are_then() {
        HeatedStories x = new HeatedStories();
        x.save(0);
        Check.due("none", x.restore(0), 0);
        x = World.twelve();
        x.save(0);
        x.burn(0);
        Check.due("12", x.restore(0), 12);
        Check.due("12 then", x.count(0), 12);
    }

    @Says(in = "Promise 24", words = "BAD_VALUE if there is no such slot")
    static void p24_BAD_VALUE_no_such_slot() {
        for (int slot : NO_SLOTS) {
            // NEW has nothing saved, so that NOT_POSSIBLE would apply, if there were such a slot
            Boundary.changesNothing("restore(" + slot + ")", x -> x.restore(slot), BAD_VALUE);
        }
    }

    @Says(in = "Promise 24", words = "NOT_POSSIBLE if nothing was saved in it.")
    static void p24_NOT_POSSIBLE_nothing_was_saved_in_it() {
        Boundary.changesNothing(World.NEW, "restore(0)", x -> x.restore(0), NOT_POSSIBLE);
        Boundary.changesNothing(World.NEW, "restore(1)", x -> x.restore(1), NOT_POSSIBLE);
        Boundary.changesNothing(World.YOUNG, "restore(0), where 1 is saved", x -> x.restore(0), NOT_POSSIBLE);
        Boundary.changesNothing(() -> savedIn0(), "restore(1), where 0 is saved", x -> x.restore(1), NOT_POSSIBLE);
        Boundary.changesNothing(World.FULL, "restore(0) of a full house", x -> x.restore(0), NOT_POSSIBLE);
    }

    private static HeatedStories savedIn0() {
        HeatedStories x = Check.with("a");
        x.save(0);
        return x;
    }
}
