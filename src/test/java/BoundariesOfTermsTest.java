/** A test for each sentence of the document's "Terms" that names a boundary case. */
public final class BoundariesOfTermsTest {
    private static final int NO_SUCH = -1, BAD_VALUE = -2, BAD_TEXT = -3, TOO_MANY = -4, NOT_POSSIBLE = -5, NONE = -6;
    private static final int LIMIT = 0, SPARK = 1, COOL = 2;

    public static void main(String[] args) throws ReflectiveOperationException {
        Boundary.run(BoundariesOfTermsTest.class);
    }

    // ---- what it is

    @Says(in = "What it is", words = "An object is used for at most 512 calls after it has been made")
    static void use_512_calls_are_answered() {
        HeatedStories x = Check.with("ab");
        for (int call = 3; call < 512; call += 2) {
            Check.due("call " + call, x.heat(0, 0, 20), 1);
            Check.due("call " + (call + 1), x.undo(), 1);
        }
        x = Check.with("a");
        for (int call = 3; call <= 511; call++) {
            Check.due("call " + call, x.heat(0, 0, 20), 1);
        }
        Check.due("call 512", x.count(5), 509);
    }

    // ---- conventions

    @Says(in = "Terms", words = {
        "A method that fails returns one of the error codes NO_SUCH (-1), BAD_VALUE (-2), BAD_TEXT (-3), TOO_MANY (-4) and NOT_POSSIBLE (-5)",
        "NO_SUCH = -1, BAD_VALUE = -2, BAD_TEXT = -3, TOO_MANY = -4, NOT_POSSIBLE = -5, NONE = -6`: Error codes, and NONE: there is none"})
    static void conventions_the_error_codes() {
        Check.due("NO_SUCH", HeatedStories.NO_SUCH, -1);
        Check.due("BAD_VALUE", HeatedStories.BAD_VALUE, -2);
        Check.due("BAD_TEXT", HeatedStories.BAD_TEXT, -3);
        Check.due("TOO_MANY", HeatedStories.TOO_MANY, -4);
        Check.due("NOT_POSSIBLE", HeatedStories.NOT_POSSIBLE, -5);
        Check.due("NONE", HeatedStories.NONE, -6);
        HeatedStories x = new HeatedStories();
        Check.due("burn of no story", x.burn(0), -1);
        Check.due("count of nothing", x.count(13), -2);
        Check.due("write of nothing", x.write(), -3);
        Check.type(x, World.sixty());
        Check.due("put behind 60", x.put('a'), -4);
        Check.due("undo of nothing", x.undo(), -5);
        Check.due("the greatest generation of nothing", x.count(7), -6);
    }

    @Says(in = "Terms", words = "it names its errors in the order in which they are checked, and the first one that applies is returned")
    static void conventions_the_first_error_that_applies() {
        HeatedStories x = new HeatedStories();
        Check.due("heat: no story, no word, bad by", x.heat(0, 0, 0), NO_SUCH);
        Check.due("read: no story, bad by", x.read(0, 51), NO_SUCH);
        Check.due("fuse: no story, both the same", x.fuse(0, 0), NO_SUCH);
        Check.due("word: no story, bad what", x.word(0, 0, 3), NO_SUCH);
        Check.due("story: no story, bad what", x.story(0, 8), NO_SUCH);
        Check.due("ifHeated: no story, bad by, bad what", x.ifHeated(0, 0, 501, 4), NO_SUCH);
        Check.due("restore: no slot, nothing saved", x.restore(2), BAD_VALUE);
        Check.type(x, World.sixty());
        Check.due("put: no character, a full pad", x.put(0), BAD_VALUE);
        x = World.twelve();
        Check.type(x, "a/");
        Check.due("write: a fault, too many stories", x.write(), BAD_TEXT);
    }

    @Says(in = "Terms", words = "A call that returns an error changes nothing.")
    static void conventions_an_error_changes_nothing() {
        World[] all = World.ALL;
        Boundary.changesNothing(all, "set(3, 10)", x -> x.set(3, 10), BAD_VALUE);
        Boundary.changesNothing(World.NEW, "write()", x -> x.write(), BAD_TEXT);
        Boundary.changesNothing(World.FULL, "write()", x -> x.write(), TOO_MANY);
        Boundary.changesNothing(all, "heat(-1, 0, 20)", x -> x.heat(-1, 0, 20), NO_SUCH);
        Boundary.changesNothing(all, "read(-1, 20)", x -> x.read(-1, 20), NO_SUCH);
        Boundary.changesNothing(all, "fuse(-1, 0)", x -> x.fuse(-1, 0), NO_SUCH);
        Boundary.changesNothing(all, "pass(31)", x -> x.pass(31), BAD_VALUE);
        Boundary.changesNothing(all, "burn(-1)", x -> x.burn(-1), NO_SUCH);
        Boundary.changesNothing(all, "put(0)", x -> x.put(0), BAD_VALUE);
        Boundary.changesNothing(World.FULL, "put('a')", x -> x.put('a'), TOO_MANY);
        Boundary.changesNothing(World.NEW, "undo()", x -> x.undo(), NOT_POSSIBLE);
        Boundary.changesNothing(all, "save(2)", x -> x.save(2), BAD_VALUE);
        Boundary.changesNothing(all, "restore(2)", x -> x.restore(2), BAD_VALUE);
        Boundary.changesNothing(World.YOUNG, "restore(0)", x -> x.restore(0), NOT_POSSIBLE);
    }

    @Says(in = "Terms", words = "NONE (-6) is not an error; it is returned only if no error applies.")
    static void conventions_NONE_only_if_no_error_applies() {
        HeatedStories x = new HeatedStories();
        Check.due("sideBySide without stories", x.sideBySide(0, 0, 1), NONE);
        Check.due("sideBySide without stories, bad letter", x.sideBySide(26, 0, 1), BAD_VALUE);
        Check.due("sideBySide without stories, bad what", x.sideBySide(0, 0, 3), BAD_VALUE);
        Check.due("touchiest without stories", x.touchiest(1, 0), NONE);
        Check.due("touchiest without stories, bad by", x.touchiest(0, 0), BAD_VALUE);
        Check.due("touchiest without stories, bad what", x.touchiest(1, 3), BAD_VALUE);
        Check.due("coolestPair without stories", x.coolestPair(0), NONE);
        Check.due("coolestPair without stories, bad what", x.coolestPair(2), BAD_VALUE);
        Check.due("critical without stories", x.critical(0, 0), NO_SUCH);
        x = Check.with("a");
        Check.due("critical of a word alone", x.critical(0, 0), NONE);
        Check.due("critical of no word, where none would split", x.critical(0, 1), NO_SUCH);
    }

    @Says(in = "Terms", words = "Everything is numbered from 0.")
    static void conventions_numbered_from_0() {
        HeatedStories x = Check.with("b5c/d");
        Check.due("story 0, word 0: its letter", x.word(0, 0, 0), 1);
        Check.due("story 0, word 0: its heat", x.word(0, 0, 1), 5);
        Check.due("story 1", x.word(1, 0, 0), 3);
        Check.due("family 0", x.story(0, 3), 0);
        Check.due("the place of the first word", x.story(0, 5), 0);
        Check.due("the first story and place", x.sideBySide(1, 2, 1) + x.sideBySide(1, 2, 2), 0);
        Check.due("slot 0", x.save(0), 2);
        Check.due("the index of the first character", Check.faultOf("A"), 0);
    }

    // ---- settings

    @Says(in = "Terms", words = {"LIMIT (10 to 99; 20).", "(In parentheses: range; first value.)"})
    static void settings_LIMIT_10_to_99_first_20() {
        range(LIMIT, 10, 99, 20);
        HeatedStories x = Check.with("ab");
        x.set(LIMIT, 10);
        Check.due("9 of 10", x.heat(0, 1, 9), 0);
        Check.due("10 of 10", x.heat(0, 1, 1), 1);
        x = Check.with("ab");
        Check.due("19 of 20", x.heat(0, 1, 19), 0);
        Check.due("20 of 20", x.heat(0, 1, 1), 1);
        x = Check.with("ab");
        x.set(LIMIT, 99);
        Check.due("98 of 99", x.heat(0, 1, 98), 0);
        Check.due("99 of 99", x.heat(0, 1, 1), 1);
    }

    @Says(in = "Terms", words = "SPARK (0 to 4; 3).")
    static void settings_SPARK_0_to_4_first_3() {
        range(SPARK, 0, 4, 3);
        int[] sparks = {0, 4};
        HeatedStories x = Check.with("abc");
        x.heat(0, 1, 20);
        Check.shows("SPARK at first", x, "a3/bc3");
        x = Check.with("abc");
        x.set(SPARK, sparks[0]);
        x.heat(0, 1, 20);
        Check.shows("SPARK 0", x, "a/bc");
        x = Check.with("abc");
        x.set(SPARK, sparks[1]);
        x.heat(0, 1, 20);
        Check.shows("SPARK 4", x, "a4/bc4");
    }

    @Says(in = "Terms", words = "COOL (0 to 20; 2).")
    static void settings_COOL_0_to_20_first_2() {
        range(COOL, 0, 20, 2);
        HeatedStories x = new HeatedStories();
        x.set(LIMIT, 99);
        Check.type(x, "a50");
        x.write();
        Check.due("COOL at first", x.pass(1), 48);
        x.set(COOL, 0);
        Check.due("COOL 0", x.pass(1), 48);
        x.set(COOL, 20);
        Check.due("COOL 20", x.pass(1), 28);
    }

    private static void range(int setting, int lowest, int highest, int first) {
        HeatedStories x = new HeatedStories();
        Check.due("first value", x.count(8 + setting), first);
        Check.due("below the range", x.set(setting, lowest - 1), BAD_VALUE);
        Check.due("above the range", x.set(setting, highest + 1), BAD_VALUE);
        Check.due("still the first value", x.count(8 + setting), first);
        Check.due("the lowest", x.set(setting, lowest), first);
        Check.due("the lowest stands", x.count(8 + setting), lowest);
        Check.due("the highest", x.set(setting, highest), lowest);
        Check.due("the highest stands", x.count(8 + setting), highest);
        Check.due("two changes", x.count(12), 2);
    }

    // ---- stories, words

    @Says(in = "Terms", words = "There are up to 12 stories, numbered in a row")
    static void stories_up_to_12_in_a_row() {
        HeatedStories x = World.twelve();
        Check.due("12 stories", x.count(0), 12);
        Check.due("the last one", x.story(11, 2), 11);
        Check.due("behind the last one", x.story(12, 2), NO_SUCH);
        Check.type(x, "m");
        Check.due("a story more", x.write(), TOO_MANY);
        x.burn(5);
        Check.due("11 stories", x.count(0), 11);
        Check.due("the last one has moved up", x.story(10, 2), 11);
        Check.due("behind the last one", x.story(11, 2), NO_SUCH);
        Check.due("a story more", x.write(), 12);
        x = Check.with("abcdefghijklm");
        x.set(SPARK, 0);
        for (int word = 12; word >= 1; word--) {
            Check.due("one reaction at " + word, x.heat(0, word, 20), 1);
        }
        Check.due("splits up to 12 stories", x.count(0), 12);
        Check.due("splits", x.count(4), 11);
        Check.due("fizzles", x.count(6), 1);
        Check.shows("12 stories", x, "ab/c/d/e/f/g/h/i/j/k/l/m");
    }

    @Says(in = "Terms", words = "with up to 150 words in all")
    static void stories_up_to_150_words() {
        HeatedStories x = World.longest();
        Check.due("150 words", x.count(1), 150);
        Check.due("in one story", x.story(0, 0), 150);
        Check.due("the last one", x.word(0, 149, 0), 0);
        Check.due("behind the last one", x.word(0, 150, 0), NO_SUCH);
        Check.type(x, "z");
        Check.due("a word more", x.write(), TOO_MANY);
        Check.due("the last word reacts", x.heat(0, 149, 20), 1);
        Check.due("149 words stay", x.story(0, 0), 149);
        x.burn(1);
        Check.due("then there is room for one", x.write(), 2);
        Check.due("150 words again", x.count(1), 150);
    }

    @Says(in = "Terms", words = "A story has 1 or more words")
    static void stories_1_or_more_words() {
        HeatedStories x = Check.with("a");
        Check.due("a story of one word", x.story(0, 0), 1);
        x.heat(0, 0, 500);
        Check.due("stays when it boils", x.story(0, 0), 1);
        x = Check.with("ab");
        x.heat(0, 1, 20);
        Check.due("one word stays ahead of a split", x.story(0, 0), 1);
        Check.due("one word goes behind a split", x.story(1, 0), 1);
        Check.due("a text of a story without words", Check.faultOf("a//b"), 2);
    }

    @Says(in = "Terms", words = "a word is a letter, a to z (as a number 0 to 25)")
    static void words_a_to_z_are_0_to_25() {
        HeatedStories x = Check.with("azby");
        int[] letters = {0, 25, 1, 24};
        for (int word = 0; word < letters.length; word++) {
            Check.due("word " + word, x.word(0, word, 0), letters[word]);
            Check.due("letter " + letters[word], x.letter(letters[word], 0), 1);
        }
        Check.due("ahead of a", x.letter(-1, 0), BAD_VALUE);
        Check.due("behind z", x.letter(26, 0), BAD_VALUE);
    }

    @Says(in = "Terms", words = "and has heat, 0 to 999")
    static void words_heat_is_not_below_0_and_not_kept_from_LIMIT_on() {
        HeatedStories x = Check.with("a1b");
        Check.due("heat of a word written without heat", x.word(0, 1, 1), 0);
        x.pass(30);
        Check.due("heat is not below 0", x.word(0, 0, 1), 0);
        x.set(LIMIT, 99);
        x.heat(0, 1, 98);
        Check.due("the most that a word keeps", x.word(0, 1, 1), 98);
        Check.due("the most that comes to it", x.heat(0, 1, 500), 1);
        Check.due("is gone by the reaction", x.word(1, 0, 1), 0);
    }

    @Says(in = "Terms", words = "a generation, at first 0: stories that are written get families one after the other, from 0 on")
    static void stories_families_from_0_generation_at_first_0() {
        HeatedStories x = Check.with("a/b/c");
        for (int story = 0; story < 3; story++) {
            Check.due("family of " + story, x.story(story, 3), story);
            Check.due("generation of " + story, x.story(story, 4), 0);
        }
        x.burn(2);
        x.burn(0);
        x.burn(0);
        Check.type(x, "d");
        x.write();
        Check.due("a family is not given twice", x.story(0, 3), 3);
        Check.due("its generation", x.story(0, 4), 0);
        x = Check.with("ab20");
        x.burn(1);
        Check.type(x, "c");
        x.write();
        Check.due("the family behind a story of generation 1", x.story(1, 3), 1);
        Check.due("the generation behind a story of generation 1", x.story(1, 4), 0);
    }

    @Says(in = "Terms", words = "The theme of a story is the word that stands in it most often, of several the one that is first in the alphabet.")
    static void theme_of_several_the_first_in_the_alphabet() {
        String[] texts = {"z", "ba", "za", "zzyy", "abb", "bab", "abcabcc", "a9b", "yzzyz"};
        int[] themes = {25, 0, 0, 24, 1, 1, 2, 0, 25};
        for (int at = 0; at < texts.length; at++) {
            Check.due("theme of " + texts[at], Check.with(texts[at]).story(0, 2), themes[at]);
        }
    }

    @Says(in = "Terms", words = "The heat of a story is the sum of that of its words.")
    static void heat_of_a_story_is_the_sum() {
        HeatedStories x = Check.with("a/b1c/d2/e3f4g5");
        int[] sums = {0, 1, 2, 12};
        for (int story = 0; story < sums.length; story++) {
            Check.due("heat of " + story, x.story(story, 1), sums[story]);
        }
        x = World.longest();
        x.set(LIMIT, 99);
        x.read(0, 50);
        x.read(0, 48);
        Check.due("150 words of 98", x.story(0, 1), 150 * 98);
    }

    // ---- reactions

    @Says(in = "Terms", words = "When heat comes to a word, it becomes 999 at most.")
    static void reactions_the_most_heat_that_can_come_is_gone_by_its_reaction() {
        HeatedStories x = new HeatedStories();
        x.set(LIMIT, 99);
        Check.type(x, "a98b98c98");
        x.write();
        Check.due("98 and 500", x.heat(0, 0, 500), 3);
        Check.shows("98 and 500", x, "a3/b3/c");
        x.heat(0, 0, 500);
        x.heat(0, 0, 500);
        Check.shows("500, and 500 again", x, "a/b3/c");
    }

    @Says(in = "Terms", words = "Whenever a word has LIMIT heat or more behind a call that heats words, there is a reaction")
    static void reactions_at_LIMIT_or_more_behind_each_call_that_heats() {
        for (int heat = 19; heat <= 21; heat++) {
            int due = heat < 20 ? 0 : 1;
            HeatedStories x = Check.with("ab" + heat);
            Check.due("write of " + heat, x.count(4), due);
            x = Check.with("ab");
            Check.due("heat to " + heat, x.heat(0, 1, heat), due);
            x = Check.with("ab9");
            Check.due("read to " + heat, x.read(0, heat - 9), due);
            x = Check.with("b/b" + (heat - 3));
            Check.due("fuse to " + heat, x.fuse(0, 1), due);
        }
    }

    @Says(in = "Terms", words = "behind a call that heats words, there is a reaction")
    static void reactions_none_behind_calls_that_heat_no_word() {
        HeatedStories x = Check.with("ab19/c/d");
        x.set(COOL, 0);
        x.set(LIMIT, 19);
        x.pass(1);
        x.burn(2);
        x.save(0);
        x.restore(0);
        x.burn(1);
        x.undo();
        Check.shows("a hot word", x, "ab19/c");
        Check.due("no reactions", x.count(4) + x.count(5) + x.count(6), 0);
        Check.due("until a word is heated", x.heat(1, 0, 1), 1);
        Check.shows("a hot word no more", x, "a3/b/c1");
    }

    @Says(in = "Terms", words = "the story with the lowest number that has such a word, and of it the first such word, is taken")
    static void reactions_lowest_story_first_word() {
        // there is room for one split only, so that the order can be seen
        HeatedStories x = Check.with("ab15/cd15/a/a/a/a/a/a/a/a/a");
        x.set(LIMIT, 15);
        Check.due("two hot stories", x.heat(10, 0, 1), 2);
        Check.shows("the lower one splits", x, "a3/b/c3d/a/a/a/a/a/a/a/a/a1");
        x = Check.with("ab15cd15e/a/a/a/a/a/a/a/a/a/a");
        x.set(LIMIT, 15);
        Check.due("two hot words", x.heat(10, 0, 1), 2);
        Check.shows("the first one splits", x, "a3/bc6de3/a/a/a/a/a/a/a/a/a/a1");
        x = Check.with("ab14cd15e/a/a/a/a/a/a/a/a/a/a");
        x.set(LIMIT, 15);
        Check.due("a heated word ahead of a hot one", x.heat(0, 1, 1), 2);
        Check.shows("the first one splits", x, "a3/bc6de3/a/a/a/a/a/a/a/a/a/a");
    }

    @Says(in = "Terms", words = "If it is not the first word of its story, and there are fewer than 12 stories, the story splits")
    static void reactions_split_of_11_but_not_of_12() {
        HeatedStories x = Check.with("ab/a/a/a/a/a/a/a/a/a/a");
        x.heat(0, 1, 20);
        Check.due("11 stories: a split", x.count(4), 1);
        Check.due("12 stories then", x.count(0), 12);
        x = Check.with("ab/a/a/a/a/a/a/a/a/a/a/a");
        x.heat(0, 1, 20);
        Check.due("12 stories: no split", x.count(4), 0);
        Check.due("12 stories: a fizzle", x.count(6), 1);
        Check.due("12 stories still", x.count(0), 12);
        x = Check.with("ab");
        x.heat(0, 0, 20);
        Check.due("the first word: no split", x.count(4), 0);
        x.heat(0, 1, 17);
        Check.due("the word behind it: a split", x.count(4), 1);
    }

    @Says(in = "Terms", words = "the words ahead of it stay as the story, and it and those behind it become a new story, which gets the next number (stories behind it move up by one), the same family, and a generation that is 1 more.")
    static void reactions_split_of_the_first_and_of_the_last_story() {
        HeatedStories x = Check.with("ab/cde/fg");
        x.heat(2, 1, 20);
        Check.shows("the last story, at its last word", x, "ab/cde/f3/g");
        x.heat(1, 1, 20);
        Check.shows("a story in the middle", x, "ab/c3/de3/f3/g");
        x.heat(0, 1, 20);
        Check.shows("the first story, at its last word", x, "a3/b/c3/de3/f3/g");
        x.heat(3, 1, 17);
        Check.shows("a story that was split off", x, "a3/b/c3/d3/e/f3/g");
        int[] families = {0, 0, 1, 1, 1, 2, 2};
        int[] generations = {0, 1, 0, 1, 2, 0, 1};
        for (int story = 0; story < 7; story++) {
            Check.due("family of " + story, x.story(story, 3), families[story]);
            Check.due("generation of " + story, x.story(story, 4), generations[story]);
        }
    }

    @Says(in = "Terms", words = "If it is the first word of its story, it boils.")
    static void reactions_boil_with_1_and_with_12_stories() {
        HeatedStories x = Check.with("a");
        Check.due("a story of one word", x.heat(0, 0, 20), 1);
        Check.due("boilings", x.count(5), 1);
        x = World.twelve();
        Check.due("the last of 12 stories", x.heat(11, 0, 20), 1);
        Check.due("boilings", x.count(5), 1);
        Check.due("no fizzles", x.count(6), 0);
        Check.due("no splits", x.count(4), 0);
    }

    @Says(in = "Terms", words = "Otherwise (12 stories) it fizzles.")
    static void reactions_fizzle_with_12_stories() {
        HeatedStories x = Check.with("abc/d/e/f/g/h/i/j/k/l/m/no");
        Check.due("a word in the middle", x.heat(0, 1, 20), 1);
        Check.due("the last word", x.heat(11, 1, 20), 1);
        Check.due("fizzles", x.count(6), 2);
        Check.due("no boilings", x.count(5), 0);
        Check.shows("stories stay", x, "a3bc3/d/e/f/g/h/i/j/k/l/m/n3o");
        Check.due("generations stay", x.count(7), 0);
        x.burn(5);
        x.heat(0, 1, 20);
        Check.due("11 stories: no fizzle", x.count(6), 2);
        Check.due("11 stories: a split", x.count(4), 1);
    }

    @Says(in = "Terms", words = "In each case its heat becomes 0; then the word that was ahead of it in its story, if there was one, and the one behind it, if there is one, get SPARK more heat each.")
    static void reactions_sparks_only_to_neighbours_in_its_story() {
        HeatedStories x = Check.with("a/bcd/e");
        x.heat(1, 1, 30);
        Check.shows("a split has both", x, "a/b3/cd3/e");
        x.heat(2, 1, 30);
        Check.shows("a split at the last word: none behind", x, "a/b3/c3/d/e");
        x = Check.with("a/bc/d");
        x.heat(1, 0, 30);
        Check.shows("boiling: none ahead", x, "a/bc3/d");
        x.heat(0, 0, 30);
        Check.shows("boiling alone: none at all", x, "a/bc3/d");
        x = Check.with("a/a/a/a/a/a/a/a/a/a/bcd/e");
        x.heat(10, 2, 30);
        Check.shows("a fizzle at the last word: none behind", x, "a/a/a/a/a/a/a/a/a/a/bc3d/e");
        x.heat(10, 1, 30);
        Check.shows("a fizzle has both", x, "a/a/a/a/a/a/a/a/a/a/b3cd3/e");
    }

    @Says(in = "Terms", words = "This goes on until there is no such word any more.")
    static void reactions_until_there_is_no_such_word() {
        HeatedStories x = Check.with("ab17c17d17e16");
        Check.due("a chain", x.heat(0, 1, 3), 3);
        Check.shows("a chain that ends below LIMIT", x, "a3/b3/c3/de19");
        x = new HeatedStories();
        x.set(LIMIT, 12);
        x.set(SPARK, 4);
        Check.type(x, "y11x11x11y");
        x.write();
        // y15/x x15 y, then the first y boils, then the second x splits
        Check.due("a chain that goes back", x.heat(0, 1, 1), 3);
        Check.shows("a chain that goes back", x, "y/x4/xy4");
        x = new HeatedStories();
        x.set(LIMIT, 12);
        x.set(SPARK, 4);
        Check.type(x, "p/p/p/p/p/p/p/p/p/p/p/x11x11x11x8x");
        x.write();
        // 11 15 0 12 0, then 15 0 4 12 0, then 0 4 4 12 0, then 0 4 8 0 4
        Check.due("a chain that goes back twice, and on", x.heat(11, 2, 1), 4);
        Check.shows("a chain that goes back twice, and on", x, "p/p/p/p/p/p/p/p/p/p/p/xx4x8xx4");
        x = World.longest();
        x.set(LIMIT, 10);
        x.set(SPARK, 4);
        int reactions = x.read(0, 50);
        Check.due("all reactions are counted", x.count(4) + x.count(5) + x.count(6), reactions);
        Check.due("room for 11 splits", x.count(4), 11);
        Check.due("no word has LIMIT heat", hottest(x) < 10 ? 1 : 0, 1);
    }

    private static int hottest(HeatedStories x) {
        int hottest = 0;
        for (int story = 0; story < x.count(0); story++) {
            hottest = Math.max(hottest, x.word(story, x.story(story, 5), 1));
        }
        return hottest;
    }

    // ---- texts

    @Says(in = "Terms", words = "The pad is a text of at most 60 characters")
    static void texts_at_most_60_characters() {
        HeatedStories x = new HeatedStories();
        Check.type(x, World.sixty());
        Check.due("60 characters", x.count(11), 60);
        Check.due("60 characters are a text", x.fault(), NONE);
        Check.due("one more", x.put('a'), TOO_MANY);
        Check.due("60 still", x.count(11), 60);
        Check.due("60 words", x.write() + x.count(1), 61);
    }

    @Says(in = "Terms", words = "text = story { \"/\" story }")
    static void texts_stories_between_slashes() {
        faults(new String[] {"a", "a/b", "a/b/c"}, NONE);
        faults(new String[] {"/", "/a", "//"}, 0);
        faults(new String[] {"a//", "a//b"}, 2);
        faults(new String[] {"a/b//c"}, 4);
        Check.due("stories of a/b/c", Check.with("a/b/c").count(0), 3);
    }

    @Says(in = "Terms", words = "story = word { word }")
    static void texts_a_story_has_at_least_one_word() {
        faults(new String[] {"a", "ab", "a1b", "a1b2/c"}, NONE);
        faults(new String[] {"1", "1a", "0", "9"}, 0);
        faults(new String[] {"a/1", "a/9b"}, 2);
    }

    @Says(in = "Terms", words = "word = a letter, a to z, and perhaps its heat")
    static void texts_letters_a_to_z() {
        faults(new String[] {"a", "z", "az", "a1z9"}, NONE);
        faults(new String[] {"`", "{", "A", "Z", "@", "!", "~", "-", "_"}, 0);
        faults(new String[] {"a`", "z{", "aA", "zZ", "a@", "a~"}, 1);
        faults(new String[] {"a1`", "a1{", "a1A"}, 2);
        faults(new String[] {"a12`", "a12{", "a12Z"}, 3);
    }

    @Says(in = "Terms", words = "1 to 99 without leading zeros.")
    static void texts_heat_1_to_99_without_leading_zeros() {
        faults(new String[] {"a1", "a9", "a10", "a19", "a90", "a99"}, NONE);
        faults(new String[] {"a0", "a00", "a01", "a0b"}, 1);
        faults(new String[] {"a100", "a999", "a100b", "a990"}, 3);
        faults(new String[] {"a:", "a.", "a-1"}, 1);
        faults(new String[] {"a1:", "a9.", "a1-"}, 2);
        faults(new String[] {"a10:", "a99."}, 3);
        HeatedStories x = new HeatedStories();
        x.set(LIMIT, 99);
        Check.type(x, "a1b9c10d98");
        x.write();
        Check.shows("heat as it is written", x, "a1b9c10d98");
        Check.type(x, "pq99");
        Check.due("99 is written, and reacts", x.write(), 3);
    }

    @Says(in = "Terms", words = "The fault is the index of the first character that cannot stand at its place when the text is read from left to right")
    static void texts_fault_is_the_first_of_several() {
        faults(new String[] {"0//", "A/B", "/a/"}, 0);
        faults(new String[] {"a00//", "aAA", "a0/"}, 1);
        faults(new String[] {"a/A//0", "a///"}, 2);
        faults(new String[] {"ab/c100//"}, 6);
        String most = World.sixty().substring(0, 59);
        faults(new String[] {most + "A", most + "0"}, 59);
        faults(new String[] {most + "1", most + "z"}, NONE);
    }

    @Says(in = "Terms", words = "if there is none and the text ends too early (also if it is empty), it is the length of the text.")
    static void texts_fault_of_an_end_that_comes_too_early_is_the_length() {
        faults(new String[] {""}, 0);
        faults(new String[] {"a/"}, 2);
        faults(new String[] {"a1/"}, 3);
        faults(new String[] {"a/b99/"}, 6);
        faults(new String[] {World.sixty().substring(0, 58) + "/"}, 59);
        faults(new String[] {World.sixty().substring(0, 59) + "/"}, 60);
    }

    private static void faults(String[] texts, int due) {
        for (String text : texts) {
            Check.due("fault of \"" + text + "\"", Check.faultOf(text), due);
        }
    }
}
