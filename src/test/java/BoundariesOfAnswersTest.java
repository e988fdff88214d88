/** A test for each sentence of promises 9 to 18 that names a boundary case. */
public final class BoundariesOfAnswersTest {
    private static final int NO_SUCH = -1, BAD_VALUE = -2, NONE = -6;
    private static final int LIMIT = 0, SPARK = 1;
    private static final int LEAST = Integer.MIN_VALUE, MOST = Integer.MAX_VALUE;
    private static final String TWELVE_LETTERS = "abcdefghijkl";

    public static void main(String[] args) throws ReflectiveOperationException {
        Boundary.run(BoundariesOfAnswersTest.class);
    }

    private static int[] outside(int lowest, int highest) {
        return new int[] {lowest - 1, highest + 1, LEAST, MOST};
    }

    @Says(in = "Terms", words = "---- what there is; nothing changes.")
    static void p09_to_p14_nothing_changes() {
        World[] all = World.WITH_STORIES;
        for (int what = 0; what <= 2; what++) {
            int asked = what;
            for (World world : all) {
                int due = world.get().word(0, 1, what);
                Boundary.changesNothing(world, "word(0, 1, " + what + ") in " + world, x -> x.word(0, 1, asked), due);
                due = world.get().sideBySide(0, 1, what);
                Boundary.changesNothing(world, "sideBySide(0, 1, " + what + ") in " + world, x -> x.sideBySide(0, 1, asked), due);
            }
        }
        for (int what = 0; what <= 7; what++) {
            int asked = what;
            for (World world : all) {
                int due = world.get().story(0, what);
                Boundary.changesNothing(world, "story(0, " + what + ") in " + world, x -> x.story(0, asked), due);
            }
        }
        for (int what = 0; what <= 12; what++) {
            int asked = what;
            for (World world : World.ALL) {
                int due = world.get().count(what);
                Boundary.changesNothing(world, "count(" + what + ") in " + world, x -> x.count(asked), due);
            }
        }
        for (int what = 0; what <= 3; what++) {
            int asked = what;
            for (World world : World.ALL) {
                int due = world.get().letter(1, what);
                Boundary.changesNothing(world, "letter(1, " + what + ") in " + world, x -> x.letter(1, asked), due);
            }
        }
        for (World world : all) {
            int due = world.get().common(0, 1);
            Boundary.changesNothing(world, "common(0, 1) in " + world, x -> x.common(0, 1), due);
        }
    }

    @Says(in = "Terms", words = "---- what if; nothing changes.")
    static void p15_to_p18_nothing_changes() {
        for (World world : World.WITH_STORIES) {
            for (int what = 0; what <= 3; what++) {
                int asked = what;
                int due = world.get().ifHeated(0, 1, 500, what);
                Boundary.changesNothing(world, "ifHeated(0, 1, 500, " + what + ") in " + world,
                    x -> x.ifHeated(0, 1, 500, asked), due);
            }
            int due = world.get().critical(0, 1);
            Boundary.changesNothing(world, "critical(0, 1) in " + world, x -> x.critical(0, 1), due);
        }
        for (World world : World.ALL) {
            for (int what = 0; what <= 2; what++) {
                int asked = what;
                int due = world.get().touchiest(500, what);
                Boundary.changesNothing(world, "touchiest(500, " + what + ") in " + world, x -> x.touchiest(500, asked), due);
            }
            for (int what = 0; what <= 1; what++) {
                int asked = what;
                int due = world.get().coolestPair(what);
                Boundary.changesNothing(world, "coolestPair(" + what + ") in " + world, x -> x.coolestPair(asked), due);
            }
        }
    }

    // ---- promise 9: word

    @Says(in = "Promise 9", words = "`what`: 0 its letter, 1 its heat, 2 how often its letter stands in this story")
    static void p09_what_0_to_2_of_first_and_last_words() {
        HeatedStories x = Check.with("az19a/za5");
        int[][] due = {{0, 0, 0, 0, 2}, {0, 1, 25, 19, 1}, {0, 2, 0, 0, 2}, {1, 0, 25, 0, 1}, {1, 1, 0, 5, 1}};
        for (int[] row : due) {
            for (int what = 0; what <= 2; what++) {
                String call = "word(" + row[0] + ", " + row[1] + ", " + what + ")";
                Check.due(call, x.word(row[0], row[1], what), row[2 + what]);
            }
        }
        Check.due("150 times", World.longest().word(0, 149, 2), 150);
        x = World.FULL.get();
        Check.due("the last word of 150", x.word(11, 11, 0), 25);
        Check.due("its heat", x.word(11, 11, 1), 1);
        Check.due("twice in this story", x.word(11, 11, 2), 2);
    }

    @Says(in = "Promise 9", words = "NO_SUCH if there is no such story or word")
    static void p09_NO_SUCH_story_or_word() {
        for (int what : new int[] {0, 1, 2, -1, 3}) {
            Boundary.noStory("word, " + what + ", of", (x, story) -> x.word(story, 0, what));
            Boundary.noWord("word, " + what + ", of", (x, story, word) -> x.word(story, word, what));
        }
        HeatedStories x = Check.with("a/bcd/e");
        Check.due("a word of the next story", x.word(0, 1, 0), NO_SUCH);
        Check.due("a word of the story before", x.word(2, -1, 0), NO_SUCH);
    }

    @Says(in = "Promise 9", words = "BAD_VALUE if what is out of range.")
    static void p09_BAD_VALUE_what_out_of_range() {
        for (int what : outside(0, 2)) {
            Boundary.changesNothing(World.WITH_STORIES, "word(0, 0, " + what + ")", x -> x.word(0, 0, what), BAD_VALUE);
        }
    }

    // ---- promise 10: story

    @Says(in = "Promise 10", words = "`what`: 0 its words, how many, 1 its heat, 2 its theme, 3 its family, 4 its generation")
    static void p10_what_0_to_4_at_their_ends() {
        HeatedStories x = Check.with("a/z19/ab1c2");
        int[][] due = {{1, 0, 0, 0, 0}, {1, 19, 25, 1, 0}, {3, 3, 0, 2, 0}};
        for (int story = 0; story < due.length; story++) {
            for (int what = 0; what <= 4; what++) {
                Check.due("story(" + story + ", " + what + ")", x.story(story, what), due[story][what]);
            }
        }
        x = World.longest();
        Check.due("150 words", x.story(0, 0), 150);
        Check.due("no heat", x.story(0, 1), 0);
        Check.due("fused twice", x.story(0, 4), 2);
    }

    @Says(in = "Promise 10", words = "5 the place of its hottest word, of several the first one")
    static void p10_what_5_hottest_of_several_the_first_one() {
        String[] texts = {"a", "abc", "a1b", "ab1", "ab2c2", "a2b2c", "a1b2c2d1", "ab1c2", "a9b10c9d10"};
        int[] places = {0, 0, 0, 1, 1, 0, 1, 2, 1};
        for (int at = 0; at < texts.length; at++) {
            Check.due("hottest of " + texts[at], Check.with(texts[at]).story(0, 5), places[at]);
            Check.due("hottest of another " + texts[at], Check.with("z19z19/" + texts[at] + "/z19").story(1, 5), places[at]);
        }
    }

    @Says(in = "Promise 10", words = "6 unlike letters in it")
    static void p10_what_6_unlike_letters_1_to_26() {
        Check.due("1", Check.with("z").story(0, 6), 1);
        Check.due("1 of 150", World.longest().story(0, 6), 1);
        Check.due("2", Check.with("zaz").story(0, 6), 2);
        Check.due("26", Check.with("abcdefghijklmnopqrstuvwxyzaz").story(0, 6), 26);
    }

    @Says(in = "Promise 10", words = "7 whether it reads the same from both ends (1 or 0)")
    static void p10_what_7_of_1_2_and_more_words() {
        String[] texts = {"a", "aa", "ab", "aba", "aab", "abba", "abca", "abcba", "abcda", "a1b2a3"};
        int[] same = {1, 1, 0, 1, 0, 1, 0, 1, 0, 1};
        for (int at = 0; at < texts.length; at++) {
            Check.due("both ends of " + texts[at], Check.with(texts[at]).story(0, 7), same[at]);
        }
        Check.due("both ends of 150 words", World.longest().story(0, 7), 1);
    }

    @Says(in = "Promise 10", words = "NO_SUCH if there is no such story")
    static void p10_NO_SUCH_story() {
        for (int what : new int[] {0, 1, 2, 3, 4, 5, 6, 7, -1, 8}) {
            Boundary.noStory("story, " + what + ", of", (x, story) -> x.story(story, what));
        }
    }

    @Says(in = "Promise 10", words = "BAD_VALUE if what is out of range.")
    static void p10_BAD_VALUE_what_out_of_range() {
        for (int what : outside(0, 7)) {
            Boundary.changesNothing(World.WITH_STORIES, "story(0, " + what + ")", x -> x.story(0, what), BAD_VALUE);
        }
    }

    // ---- promise 11: count

    @Says(in = "Promise 11", words = "0 stories, 1 words, 2 the heat of all stories, 3 families that there are")
    static void p11_what_0_to_3_of_none_and_of_all() {
        HeatedStories x = new HeatedStories();
        HeatedStories y = World.FULL.get();
        int[] none = {0, 0, 0, 0};
        int[] all = {12, 150, 1, 12};
        for (int what = 0; what <= 3; what++) {
            Check.due("count(" + what + ") of none", x.count(what), none[what]);
            Check.due("count(" + what + ") of all", y.count(what), all[what]);
        }
        x = Check.with("ab20c20/d");
        Check.due("a family of three, and another one", x.count(3), 2);
        x.burn(3);
        Check.due("a family of three", x.count(3), 1);
    }

    @Says(in = "Promise 11", words = "4 splits so far, 5 boilings so far, 6 fizzles so far")
    static void p11_what_4_to_6_so_far() {
        HeatedStories x = Check.with("abc/a/a/a/a/a/a/a/a/a/a");
        int[][] due = {{0, 0, 0}, {1, 0, 0}, {1, 1, 0}, {1, 1, 1}};
        for (int step = 0; step < 4; step++) {
            for (int what = 4; what <= 6; what++) {
                Check.due("count(" + what + ") behind step " + step, x.count(what), due[step][what - 4]);
            }
            x.heat(new int[] {0, 0, 1, 0}[step], new int[] {1, 0, 1, 0}[step], 20);
        }
        for (int story = 0; story < 12; story++) {
            x.burn(0);
        }
        Check.due("splits, also of stories that are gone", x.count(4), 1);
        Check.due("boilings, also of stories that are gone", x.count(5), 2);
        Check.due("fizzles, also of stories that are gone", x.count(6), 1);
    }

    @Says(in = "Promise 11", words = "7 the greatest generation (NONE without stories)")
    static void p11_what_7_NONE_without_stories() {
        HeatedStories x = new HeatedStories();
        Check.due("without stories", x.count(7), NONE);
        Check.type(x, "ab/c");
        x.write();
        Check.due("at first", x.count(7), 0);
        x.heat(0, 1, 20);
        Check.due("behind a split", x.count(7), 1);
        x.burn(1);
        Check.due("without the latest one", x.count(7), 0);
        x.burn(0);
        x.burn(0);
        Check.due("without stories again", x.count(7), NONE);
        x = Check.with("a/a/b");
        x.fuse(0, 1);
        Check.due("of the first story", x.count(7), 1);
    }

    @Says(in = "Promise 11", words = "8 to 10 the settings")
    static void p11_what_8_to_10_the_settings_at_their_ends() {
        HeatedStories x = new HeatedStories();
        int[][] settings = {{20, 3, 2}, {10, 0, 0}, {99, 4, 20}};
        for (int[] row : settings) {
            for (int setting = 0; setting <= 2; setting++) {
                x.set(setting, row[setting]);
            }
            for (int setting = 0; setting <= 2; setting++) {
                Check.due("count(" + (8 + setting) + ")", x.count(8 + setting), row[setting]);
            }
        }
    }

    @Says(in = "Promise 11", words = "11 the length of the pad")
    static void p11_what_11_the_length_0_to_60() {
        HeatedStories x = new HeatedStories();
        Check.due("empty", x.count(11), 0);
        x.put('A');
        Check.due("one character", x.count(11), 1);
        x.wipe();
        Check.due("wiped", x.count(11), 0);
        Check.type(x, World.sixty());
        Check.due("full", x.count(11), 60);
        x.write();
        Check.due("written", x.count(11), 0);
    }

    @Says(in = "Promise 11", words = "12 how many changes can be undone")
    static void p11_what_12_the_changes_0_to_6() {
        HeatedStories x = new HeatedStories();
        for (int changes = 0; changes <= 8; changes++) {
            Check.due("behind " + changes + " changes", x.count(12), Math.min(changes, 6));
            x.pass(1);
        }
        for (int left = 6; left > 0; left--) {
            Check.due("left", x.count(12), left);
            x.undo();
        }
        Check.due("none left", x.count(12), 0);
    }

    @Says(in = "Promise 11", words = "BAD_VALUE if what is out of range.")
    static void p11_BAD_VALUE_what_out_of_range() {
        for (int what : outside(0, 12)) {
            Boundary.changesNothing("count(" + what + ")", x -> x.count(what), BAD_VALUE);
        }
    }

    // ---- promise 12: letter

    @Says(in = "Promise 12", words = "`what`: 0 how often it stands in all stories, 1 stories with it, 2 stories of which it is the theme, 3 the heat of all words with it")
    static void p12_what_0_to_3_of_none_and_of_all() {
        HeatedStories x = Check.with("a1b2/ba3b/z19");
        int[][] due = {{0, 2, 2, 1, 4}, {1, 3, 2, 1, 2}, {2, 0, 0, 0, 0}, {25, 1, 1, 1, 19}};
        for (int[] row : due) {
            for (int what = 0; what <= 3; what++) {
                Check.due("letter(" + row[0] + ", " + what + ")", x.letter(row[0], what), row[1 + what]);
            }
        }
        x = World.longest();
        Check.due("150 times", x.letter(0, 0), 150);
        Check.due("in one story", x.letter(0, 1), 1);
        x = Check.with("a/a/a/a/a/a/a/a/a/a/a/a");
        Check.due("in 12 stories", x.letter(0, 1), 12);
        Check.due("the theme of 12 stories", x.letter(0, 2), 12);
    }

    @Says(in = "Promise 12", words = "`letter`: 0 to 25")
    static void p12_letter_0_to_25() {
        HeatedStories x = Check.with("aaz");
        Check.due("letter 0", x.letter(0, 0), 2);
        Check.due("letter 25", x.letter(25, 0), 1);
        Check.due("letter -1", x.letter(-1, 0), BAD_VALUE);
        Check.due("letter 26", x.letter(26, 0), BAD_VALUE);
    }

    @Says(in = "Promise 12", words = "BAD_VALUE if an argument is out of range.")
    static void p12_BAD_VALUE_an_argument_out_of_range() {
        for (int letter : outside(0, 25)) {
            for (int what : new int[] {0, 3, 4}) {
                Boundary.changesNothing("letter(" + letter + ", " + what + ")", x -> x.letter(letter, what), BAD_VALUE);
            }
        }
        for (int what : outside(0, 3)) {
            for (int letter : new int[] {0, 25, 26}) {
                Boundary.changesNothing("letter(" + letter + ", " + what + ")", x -> x.letter(letter, what), BAD_VALUE);
            }
        }
    }

    // ---- promise 13: sideBySide

    @Says(in = "Promise 13", words = "(in one and the same story)")
    static void p13_not_across_a_border_of_stories() {
        HeatedStories x = Check.with("ba/ba/bba");
        sideBySide(x, 0, 1, 0, NONE, NONE);
        sideBySide(x, 1, 0, 3, 0, 0);
        sideBySide(x, 1, 1, 1, 2, 0);
        x = Check.with("ab");
        sideBySide(x, 0, 1, 1, 0, 0);
        x.heat(0, 1, 20);
        sideBySide(x, 0, 1, 0, NONE, NONE);
    }

    @Says(in = "Promise 13", words = "0 how often the first one stands right ahead of the second one")
    static void p13_what_0_from_no_pair_to_149() {
        Check.due("without stories", new HeatedStories().sideBySide(0, 1, 0), 0);
        Check.due("one word", Check.with("a").sideBySide(0, 0, 0), 0);
        Check.due("not right ahead", Check.with("acb").sideBySide(0, 1, 0), 0);
        Check.due("right behind", Check.with("ba").sideBySide(0, 1, 0), 0);
        Check.due("three of the same", Check.with("aaa").sideBySide(0, 0, 0), 2);
        Check.due("150 of the same", World.longest().sideBySide(0, 0, 0), 149);
        Check.due("heat between does not matter", Check.with("a1b2").sideBySide(0, 1, 0), 1);
    }

    @Says(in = "Promise 13", words = "1 the story, 2 the place of the first one there, of the first such pair in the lowest story (NONE)")
    static void p13_what_1_and_2_of_the_first_pair_or_NONE() {
        HeatedStories x = new HeatedStories();
        sideBySide(x, 0, 1, 0, NONE, NONE);
        x = Check.with("abab/ab");
        sideBySide(x, 0, 1, 3, 0, 0);
        x = Check.with("ba/baabab/ab");
        sideBySide(x, 0, 1, 3, 1, 2);
        x = Check.with("z/y/zaz");
        sideBySide(x, 0, 25, 1, 2, 1);
        x = Check.with("abc");
        sideBySide(x, 2, 0, 0, NONE, NONE);
        x = World.FULL.get();
        sideBySide(x, 10, 25, 1, 11, 10);
        sideBySide(x, 25, 10, 0, NONE, NONE);
    }

    private static void sideBySide(HeatedStories x, int letter, int next, int... due) {
        for (int what = 0; what <= 2; what++) {
            Check.due("sideBySide(" + letter + ", " + next + ", " + what + ")", x.sideBySide(letter, next, what), due[what]);
        }
    }

    @Says(in = "Promise 13", words = "BAD_VALUE if a letter is not 0 to 25")
    static void p13_BAD_VALUE_letter_not_0_to_25() {
        for (int letter : outside(0, 25)) {
            for (int what : new int[] {0, 1, 2, 3}) {
                String call = "sideBySide of " + letter + ", " + what;
                Boundary.changesNothing(call, x -> x.sideBySide(letter, 0, what), BAD_VALUE);
                Boundary.changesNothing(call, x -> x.sideBySide(0, letter, what), BAD_VALUE);
                Boundary.changesNothing(call, x -> x.sideBySide(letter, letter, what), BAD_VALUE);
            }
        }
        HeatedStories x = Check.with("azza");
        Check.due("0 and 25", x.sideBySide(0, 25, 0), 1);
        Check.due("25 and 0", x.sideBySide(25, 0, 0), 1);
        Check.due("25 and 25", x.sideBySide(25, 25, 0), 1);
        Check.due("0 and 0", x.sideBySide(0, 0, 0), 0);
    }

    @Says(in = "Promise 13", words = "or what is out of range.")
    static void p13_BAD_VALUE_what_out_of_range() {
        for (int what : outside(0, 2)) {
            Boundary.changesNothing("sideBySide(0, 1, " + what + ")", x -> x.sideBySide(0, 1, what), BAD_VALUE);
            Boundary.changesNothing("sideBySide(25, 25, " + what + ")", x -> x.sideBySide(25, 25, what), BAD_VALUE);
        }
    }

    // ---- promise 14: common

    @Says(in = "Promise 14", words = {"how long the longest row of letters is that stands in both of two stories (side by side in each)", "Returns its length"})
    static void p14_from_one_letter_to_whole_stories() {
        String[] texts = {"a/a", "ab/ba", "ab/ab", "abc/xabcx", "xab/aby", "abxbc/abc", "aaa/aa", "abab/baba", "a1b2/a3b4",
            "abcabd/abd"};
        int[] lengths = {1, 1, 2, 3, 2, 2, 2, 3, 2, 3};
        for (int at = 0; at < texts.length; at++) {
            Check.due("common of " + texts[at], Check.with(texts[at]).common(0, 1), lengths[at]);
            Check.due("common of " + texts[at] + " the other way round", Check.with(texts[at]).common(1, 0), lengths[at]);
        }
        Check.due("a story of 150 words and itself", World.longest().common(0, 0), 150);
        Check.due("a story of one word and itself", Check.with("a/b").common(1, 1), 1);
        HeatedStories x = Check.with("ab/ac/" + TWELVE_LETTERS + "/x" + TWELVE_LETTERS);
        Check.due("stories far from the first one", x.common(2, 3), 12);
        Check.due("not across borders", x.common(0, 3), 2);
    }

    @Says(in = "Promise 14", words = "0 if they have no letter in common")
    static void p14_0_without_a_common_letter() {
        HeatedStories x = Check.with("a/z/bcd/ebf");
        Check.due("one word each", x.common(0, 1), 0);
        Check.due("more words", x.common(0, 2), 0);
        Check.due("more words the other way round", x.common(2, 1), 0);
        Check.due("but a letter in common", x.common(2, 3), 1);
        x = Check.with("abc/zzzc/c");
        Check.due("a story and itself", x.common(0, 0), 3);
        Check.due("what was found before does not count", x.common(2, 1), 1);
    }

    @Says(in = "Promise 14", words = "NO_SUCH if there is no such story.")
    static void p14_NO_SUCH_story() {
        Boundary.noStory("common of the first and", (x, story) -> x.common(0, story));
        Boundary.noStory("common of the first behind", (x, story) -> x.common(story, 0));
        Boundary.noStory("common of twice", (x, story) -> x.common(story, story));
        HeatedStories x = World.FULL.get();
        Check.due("the first and the last", x.common(0, 11), 10);
        Check.due("the last and the first", x.common(11, 0), 10);
    }

    // ---- promise 15: ifHeated

    @Says(in = "Promise 15", words = "`by`: 1 to 500")
    static void p15_by_1_to_500() {
        HeatedStories x = Check.with("ab19");
        ifHeated(x, 0, 0, 1, 0, 0, 1, 20);
        ifHeated(x, 0, 1, 1, 1, 1, 2, 3);
        ifHeated(x, 0, 1, 500, 1, 1, 2, 3);
        ifHeated(x, 0, 0, 500, 2, 1, 2, 3);
    }

    @Says(in = "Promise 15", words = "`what`: 0 how many reactions, 1 how many of them splits, 2 stories then, 3 the heat of all stories then")
    static void p15_what_0_to_3_with_and_without_room() {
        HeatedStories x = Check.with("ab/a/a/a/a/a/a/a/a/a/a");
        ifHeated(x, 0, 1, 20, 1, 1, 12, 3);
        ifHeated(x, 10, 0, 20, 1, 0, 11, 0);
        ifHeated(x, 10, 0, 19, 0, 0, 11, 19);
        x.heat(0, 1, 20);
        ifHeated(x, 0, 0, 17, 1, 0, 12, 0);
        x = Check.with("abc/a/a/a/a/a/a/a/a/a/a/a");
        ifHeated(x, 0, 1, 20, 1, 0, 12, 6);
        ifHeated(x, 0, 2, 20, 1, 0, 12, 3);
    }

    private static void ifHeated(HeatedStories x, int story, int word, int by, int... due) {
        for (int what = 0; what <= 3; what++) {
            String call = "ifHeated(" + story + ", " + word + ", " + by + ", " + what + ")";
            Check.due(call, x.ifHeated(story, word, by, what), due[what]);
        }
    }

    @Says(in = "Promise 15", words = "NO_SUCH if there is no such story or word")
    static void p15_NO_SUCH_story_or_word() {
        int[][] others = {{1, 0}, {500, 3}, {0, 0}, {501, 0}, {1, -1}, {1, 4}, {0, 4}};
        for (int[] row : others) {
            String call = "ifHeated, by " + row[0] + ", " + row[1] + ", of";
            Boundary.noStory(call, (x, story) -> x.ifHeated(story, 0, row[0], row[1]));
            Boundary.noWord(call, (x, story, word) -> x.ifHeated(story, word, row[0], row[1]));
        }
    }

    @Says(in = "Promise 15", words = "BAD_VALUE if another argument is out of range.")
    static void p15_BAD_VALUE_another_argument_out_of_range() {
        for (int by : outside(1, 500)) {
            for (int what : new int[] {0, 1, 2, 3, 4}) {
                Boundary.changesNothing(World.WITH_STORIES, "ifHeated by " + by + ", " + what,
                    x -> x.ifHeated(0, 0, by, what), BAD_VALUE);
            }
        }
        for (int what : outside(0, 3)) {
            for (int by : new int[] {1, 500, 0}) {
                Boundary.changesNothing(World.WITH_STORIES, "ifHeated by " + by + ", " + what,
                    x -> x.ifHeated(0, 0, by, what), BAD_VALUE);
            }
        }
    }

    // ---- promise 16: critical

    @Says(in = "Promise 16", words = "Returns the least one, 1 to 500")
    static void p16_the_least_one_from_1_to_99() {
        HeatedStories x = Check.with("ab19c");
        Check.due("1 is enough", x.critical(0, 1), 1);
        Check.due("20 is needed", x.critical(0, 2), 20);
        Check.due("20, as the first word heats the second", x.critical(0, 0), 20);
        x.set(LIMIT, 10);
        Check.due("1, as a word is hot already", x.critical(0, 0), 1);
        x = Check.with("ab");
        x.set(LIMIT, 99);
        Check.due("99, the most that can be needed", x.critical(0, 1), 99);
        x.heat(0, 1, 98);
        Check.due("1 of 99", x.critical(0, 1), 1);
        x.set(LIMIT, 98);
        Check.due("1, as it is as hot as LIMIT", x.critical(0, 1), 1);
        x.set(LIMIT, 10);
        Check.due("1, as it is hotter than LIMIT", x.critical(0, 1), 1);
        x = Check.with("ab17/c");
        x.set(LIMIT, 10);
        x.set(SPARK, 0);
        Check.due("1, as a word of another story is hot", x.critical(1, 0), 1);
    }

    @Says(in = "Promise 16", words = "NO_SUCH if there is no such story or word")
    static void p16_NO_SUCH_story_or_word() {
        Boundary.noStory("critical of", (x, story) -> x.critical(story, 0));
        Boundary.noWord("critical of", (x, story, word) -> x.critical(story, word));
    }

    @Says(in = "Promise 16", words = "NONE if there is none.")
    static void p16_NONE_if_there_is_none() {
        HeatedStories x = Check.with("ab16/c");
        Check.due("a first word whose spark is too little", x.critical(0, 0), NONE);
        Check.due("a word alone", x.critical(1, 0), NONE);
        Check.due("but a first word whose spark is enough", Check.with("ab17").critical(0, 0), 20);
        x = Check.with("ab19/a/a/a/a/a/a/a/a/a/a/a");
        Check.due("12 stories", x.critical(0, 1), NONE);
        x.burn(11);
        Check.due("11 stories", x.critical(0, 1), 1);
        x = Check.with("a19b16/c");
        x.set(LIMIT, 19);
        Check.due("hot words that split by any heat", x.critical(1, 0), 1);
        x.set(SPARK, 2);
        Check.due("hot words that do not", x.critical(1, 0), NONE);
    }

    // ---- promise 17: touchiest

    @Says(in = "Promise 17", words = "of several the one of the lowest story, of these the first one.")
    static void p17_of_several_the_lowest_story_and_the_first_word() {
        touchiest(Check.with("ab/cd"), 19, 0, 0, 0);
        touchiest(Check.with("ab/cd"), 20, 0, 0, 1);
        touchiest(Check.with("a/bc19/de19"), 1, 1, 1, 1);
        touchiest(Check.with("a/bc19d/e19"), 1, 1, 1, 1);
        touchiest(Check.with("abc19d19/e19"), 1, 0, 2, 2);
        touchiest(Check.with("a/b/c19"), 1, 2, 0, 1);
        touchiest(Check.with("a19/ab19c17"), 1, 1, 1, 2);
        HeatedStories x = Check.with("ab/c19");
        x.set(LIMIT, 19);
        touchiest(x, 1, 0, 0, 1);
    }

    private static void touchiest(HeatedStories x, int by, int... due) {
        for (int what = 0; what <= 2; what++) {
            Check.due("touchiest(" + by + ", " + what + ") of " + Check.shown(x), x.touchiest(by, what), due[what]);
        }
    }

    @Says(in = "Promise 17", words = "`by`: 1 to 500")
    static void p17_by_1_to_500() {
        HeatedStories x = Check.with("ab/cd18e18");
        touchiest(x, 1, 0, 0, 0);
        touchiest(x, 2, 1, 1, 2);
        touchiest(x, 500, 1, 0, 3);
    }

    @Says(in = "Promise 17", words = "`what`: 0 the story, 1 the word, 2 how many reactions")
    static void p17_what_0_to_2_of_first_and_last_words() {
        touchiest(Check.with("a19"), 1, 0, 0, 1);
        touchiest(Check.with("a/bc19"), 1, 1, 1, 1);
        HeatedStories x = World.FULL.get();
        for (int what = 0; what <= 2; what++) {
            Check.due("the last word of 150, " + what, x.touchiest(19, what), new int[] {11, 11, 1}[what]);
            Check.due("the first word of 150, " + what, x.touchiest(20, what), new int[] {0, 0, 1}[what]);
        }
    }

    @Says(in = "Promise 17", words = "BAD_VALUE if an argument is out of range")
    static void p17_BAD_VALUE_an_argument_out_of_range() {
        for (int by : outside(1, 500)) {
            for (int what : new int[] {0, 1, 2, 3}) {
                Boundary.changesNothing("touchiest(" + by + ", " + what + ")", x -> x.touchiest(by, what), BAD_VALUE);
            }
        }
        for (int what : outside(0, 2)) {
            for (int by : new int[] {1, 500, 501}) {
                Boundary.changesNothing("touchiest(" + by + ", " + what + ")", x -> x.touchiest(by, what), BAD_VALUE);
            }
        }
    }

    @Says(in = "Promise 17", words = "NONE if there are no stories.")
    static void p17_NONE_without_stories() {
        touchiest(new HeatedStories(), 1, NONE, NONE, NONE);
        touchiest(new HeatedStories(), 500, NONE, NONE, NONE);
        HeatedStories x = Check.with("a");
        touchiest(x, 1, 0, 0, 0);
        x.burn(0);
        touchiest(x, 1, NONE, NONE, NONE);
    }

    // ---- promise 18: coolestPair

    @Says(in = "Promise 18", words = "of several the one with the lowest lower number, of these with the lowest higher one.")
    static void p18_of_several_the_lowest_numbers() {
        coolestPair(Check.with("a/a/a"), 0, 1);
        coolestPair(Check.with("b/a/b/a"), 0, 2);
        coolestPair(Check.with("b/a/a/b"), 0, 3);
        coolestPair(Check.with("a/b/a/a"), 0, 2);
        coolestPair(Check.with("a1/a1/a/a"), 2, 3);
        coolestPair(Check.with("a1/a/a1/a1"), 0, 1);
        coolestPair(Check.with("a/a1/a1"), 0, 1);
        coolestPair(Check.with("b9/b/a4/a5"), 0, 1);
        coolestPair(Check.with("b9/b1/a4/a5"), 2, 3);
        coolestPair(Check.with("z/b/c/d/e/f/g/h/i/j/k/z"), 0, 11);
        coolestPair(Check.with("a9/b/c/d/e/f/g/h/i/j/a/a"), 10, 11);
    }

    private static void coolestPair(HeatedStories x, int lower, int higher) {
        Check.due("lower number in " + Check.shown(x), x.coolestPair(0), lower);
        Check.due("higher number in " + Check.shown(x), x.coolestPair(1), higher);
    }

    @Says(in = "Promise 18", words = "`what`: 0 the lower number, 1 the higher one")
    static void p18_what_0_and_1_of_the_first_and_the_last_stories() {
        coolestPair(Check.with("a/a/b/c"), 0, 1);
        coolestPair(Check.with("b/c/a/a"), 2, 3);
        coolestPair(Check.with("a/b/c/a"), 0, 3);
    }

    @Says(in = "Promise 18", words = "BAD_VALUE if what is neither 0 nor 1")
    static void p18_BAD_VALUE_what_neither_0_nor_1() {
        for (int what : outside(0, 1)) {
            Boundary.changesNothing("coolestPair(" + what + ")", x -> x.coolestPair(what), BAD_VALUE);
        }
    }

    @Says(in = "Promise 18", words = "NONE if there is no such pair.")
    static void p18_NONE_without_a_pair() {
        coolestPair(new HeatedStories(), NONE, NONE);
        coolestPair(Check.with("a"), NONE, NONE);
        coolestPair(Check.with("a/b"), NONE, NONE);
        coolestPair(World.twelve(), NONE, NONE);
        HeatedStories x = Check.with("a/a");
        coolestPair(x, 0, 1);
        x.burn(0);
        coolestPair(x, NONE, NONE);
    }
}
