/** Promises 9 to 18: what there is, and what if. */
public final class AnswersTest {
    private static final int NO_SUCH = -1, BAD_VALUE = -2, NONE = -6;
    private static final int LIMIT = 0, SPARK = 1;
    private static final int[] NO_WHATS = {-1, 99, Integer.MIN_VALUE, Integer.MAX_VALUE};

    public static void main(String[] args) {
        word();
        story();
        count();
        letter();
        sideBySide();
        common();
        ifHeated();
        critical();
        criticalAmongHotWords();
        touchiest();
        coolestPair();
        fullHouse();
        Check.end();
    }

    private static void word() {
        HeatedStories x = Check.with("ab7a/bz12");
        int[][] want = {{0, 0, 0, 0, 2}, {0, 1, 1, 7, 1}, {0, 2, 0, 0, 2}, {1, 0, 1, 0, 1}, {1, 1, 25, 12, 1}};
        for (int[] row : want) {
            for (int what = 0; what < 3; what++) {
                Check.due("word what " + what, x.word(row[0], row[1], what), row[2 + what]);
            }
            Check.due("word what 3", x.word(row[0], row[1], 3), BAD_VALUE);
        }
        Check.due("no story", x.word(2, 0, 0), NO_SUCH);
        Check.due("no story", x.word(-1, 0, 0), NO_SUCH);
        Check.due("no word", x.word(1, 2, 0), NO_SUCH);
        Check.due("no word, no what", x.word(0, -1, 3), NO_SUCH);
        Check.due("no what", x.word(0, 0, -1), BAD_VALUE);
        Check.due("no change", x.count(12), 1);
    }

    private static void story() {
        HeatedStories x = Check.with("bca9ab9c/abcba/z/ab/dcc4");
        int[][] want = {{6, 18, 0, 0, 0, 2, 3, 0}, {5, 0, 0, 1, 0, 0, 3, 1}, {1, 0, 25, 2, 0, 0, 1, 1},
            {2, 0, 0, 3, 0, 0, 2, 0}, {3, 4, 2, 4, 0, 2, 2, 0}};
        for (int story = 0; story < want.length; story++) {
            for (int what = 0; what < 8; what++) {
                Check.due("story(" + story + ", " + what + ")", x.story(story, what), want[story][what]);
            }
            for (int what : NO_WHATS) {
                Check.due("story what " + what, x.story(story, what), BAD_VALUE);
            }
            Check.due("story what 8", x.story(story, 8), BAD_VALUE);
        }
        Check.due("no story", x.story(5, 0), NO_SUCH);
        Check.due("no story, no what", x.story(-1, 8), NO_SUCH);
        Check.due("the theme of one", x.story(0, 2), 0);
        Check.due("then the unlike letters of another", x.story(2, 6), 1);
        x = Check.with("a1b2/c9");
        Check.due("the hottest word is one of this story", x.story(0, 5), 1);
        x = Check.with("a1a/abba/abca");
        Check.due("heat is not read", x.story(0, 7), 1);
        Check.due("an even story", x.story(1, 7), 1);
        Check.due("an even story, not the same", x.story(2, 7), 0);
    }

    private static void count() {
        HeatedStories x = Check.with("ab9/c/d8");
        x.heat(0, 1, 11);
        x.heat(0, 0, 17);
        int[] want = {4, 4, 8, 3, 1, 1, 0, 1, 20, 3, 2, 0, 3};
        for (int what = 0; what < want.length; what++) {
            Check.due("count(" + what + ")", x.count(what), want[what]);
        }
        Check.due("count(13)", x.count(13), BAD_VALUE);
        for (int what : NO_WHATS) {
            Check.due("count(" + what + ")", x.count(what), BAD_VALUE);
        }
        Check.type(x, "xy");
        Check.due("count(11)", x.count(11), 2);
        x.burn(1);
        Check.due("the generation burnt", x.count(7), 0);
        Check.due("the family did not", x.count(3), 3);
        x.burn(0);
        Check.due("now it did", x.count(3), 2);
        x.burn(0);
        x.burn(0);
        Check.due("no generation", x.count(7), NONE);
        Check.due("no family", x.count(3), 0);
        Check.due("splits so far", x.count(4), 1);
        Check.due("at most 6 changes", x.count(12), 6);
        x = Check.with("a/a/b");
        x.fuse(0, 1);
        Check.due("the first story's generation", x.count(7), 1);
    }

    private static void letter() {
        HeatedStories x = Check.with("ab3ab/b4bza1/zz8");
        int[][] want = {{3, 2, 1, 1}, {4, 2, 1, 7}, {0, 0, 0, 0}, {3, 2, 1, 8}};
        int[] letters = {0, 1, 2, 25};
        for (int row = 0; row < letters.length; row++) {
            for (int what = 0; what < 4; what++) {
                Check.due("letter(" + letters[row] + ", " + what + ")", x.letter(letters[row], what), want[row][what]);
            }
            Check.due("letter what 4", x.letter(letters[row], 4), BAD_VALUE);
            Check.due("letter what -1", x.letter(letters[row], -1), BAD_VALUE);
        }
        x = Check.with("q7/a/q2");
        int[] first = {2, 2, 2, 9};
        for (int what = 0; what < 4; what++) {
            Check.due("letter(16, " + what + ")", x.letter(16, what), first[what]);
        }
        int[] none = {-1, 26, Integer.MAX_VALUE, Integer.MIN_VALUE};
        for (int letter : none) {
            Check.due("letter(" + letter + ", 0)", x.letter(letter, 0), BAD_VALUE);
        }
    }

    private static void sideBySide() {
        HeatedStories x = Check.with("ba/abaa/aab");
        int[][] want = {{0, 1, 2, 1, 0}, {0, 0, 2, 1, 2}, {1, 0, 2, 0, 0}, {1, 1, 0, NONE, NONE}, {2, 0, 0, NONE, NONE}};
        for (int[] row : want) {
            for (int what = 0; what < 3; what++) {
                String call = "sideBySide(" + row[0] + ", " + row[1] + ", " + what + ")";
                Check.due(call, x.sideBySide(row[0], row[1], what), row[2 + what]);
            }
        }
        Check.due("what 3", x.sideBySide(0, 1, 3), BAD_VALUE);
        Check.due("what -1", x.sideBySide(0, 1, -1), BAD_VALUE);
        Check.due("letter -1", x.sideBySide(-1, 1, 0), BAD_VALUE);
        Check.due("letter 26", x.sideBySide(26, 1, 1), BAD_VALUE);
        Check.due("next -1", x.sideBySide(0, -1, 2), BAD_VALUE);
        Check.due("next 26", x.sideBySide(0, 26, 0), BAD_VALUE);
        x = Check.with("aaa");
        Check.due("pairs share words", x.sideBySide(0, 0, 0), 2);
        x = new HeatedStories();
        Check.due("without stories", x.sideBySide(0, 0, 0), 0);
        Check.due("without stories", x.sideBySide(0, 0, 1), NONE);
        Check.due("without stories", x.sideBySide(0, 0, 2), NONE);
    }

    private static void common() {
        HeatedStories x = Check.with("abcabd/xabdab/q/aa/bcab");
        int[][] want = {{0, 1, 3}, {0, 2, 0}, {0, 3, 1}, {0, 4, 4}, {1, 4, 2}, {3, 4, 1}, {0, 0, 6}, {2, 2, 1}};
        for (int[] row : want) {
            Check.due("common(" + row[0] + ", " + row[1] + ")", x.common(row[0], row[1]), row[2]);
            Check.due("common(" + row[1] + ", " + row[0] + ")", x.common(row[1], row[0]), row[2]);
        }
        int[][] noSuch = {{-1, 0}, {0, -1}, {5, 0}, {0, 5}};
        for (int[] bad : noSuch) {
            Check.due("common of no story", x.common(bad[0], bad[1]), NO_SUCH);
        }
        x = Check.with("aba7b/a3b9ab");
        Check.due("heat is not in common", x.common(0, 1), 4);
    }

    private static void ifHeated() {
        HeatedStories x = Check.with("ab18c18/d5");
        int[] quiet = {0, 0, 2, 42};
        int[] hot = {2, 2, 4, 11};
        for (int what = 0; what < 4; what++) {
            Check.due("ifHeated by 1, " + what, x.ifHeated(0, 1, 1, what), quiet[what]);
            Check.due("ifHeated by 2, " + what, x.ifHeated(0, 1, 2, what), hot[what]);
            Check.due("ifHeated by 500, " + what, x.ifHeated(0, 1, 500, what), hot[what]);
            Check.due("ifHeated of no word, " + what, x.ifHeated(0, 3, 1, what), NO_SUCH);
            Check.due("ifHeated of no story, " + what, x.ifHeated(2, 0, 1, what), NO_SUCH);
            Check.due("ifHeated by 0, " + what, x.ifHeated(0, 0, 0, what), BAD_VALUE);
            Check.due("ifHeated by 501, " + what, x.ifHeated(0, 0, 501, what), BAD_VALUE);
        }
        Check.due("ifHeated what 4", x.ifHeated(0, 0, 1, 4), BAD_VALUE);
        Check.due("ifHeated what -1", x.ifHeated(0, 0, 1, -1), BAD_VALUE);
        Check.due("no such word first", x.ifHeated(-1, 0, 0, 4), NO_SUCH);
        Check.shows("nothing changes", x, "ab18c18/d5");
        Check.due("no change", x.count(12), 1);
        Check.due("no splits", x.count(4), 0);
        x.heat(0, 1, 2);
        Check.due("the same by heat", x.count(4), 2);
        Check.due("only splits to come are told", x.ifHeated(0, 0, 500, 1), 0);
    }

    private static void critical() {
        HeatedStories x = Check.with("ab3c/d/e17f18");
        Check.due("of a first word", x.critical(0, 0), NONE);
        Check.due("of a warm word", x.critical(0, 1), 17);
        Check.due("of a last word", x.critical(0, 2), 20);
        Check.due("of a word alone", x.critical(1, 0), NONE);
        Check.due("of a first word that heats the next one", x.critical(2, 0), 3);
        Check.due("of the next one", x.critical(2, 1), 2);
        Check.due("no story", x.critical(3, 0), NO_SUCH);
        Check.due("no story", x.critical(-1, 0), NO_SUCH);
        Check.due("no word", x.critical(0, 3), NO_SUCH);
        Check.due("no word", x.critical(0, -1), NO_SUCH);
        Check.shows("nothing changes", x, "ab3c/d/e17f18");
        Check.due("no change", x.count(12), 1);
        x = Check.with("ab/b/b/b/b/b/b/b/b/b/b/b");
        Check.due("without room", x.critical(0, 1), NONE);
        x.burn(11);
        Check.due("with room", x.critical(0, 1), 20);
        x.set(LIMIT, 99);
        Check.due("with the greatest LIMIT", x.critical(0, 1), 99);
    }

    private static void criticalAmongHotWords() {
        HeatedStories x = Check.with("a15b15/c");
        x.set(LIMIT, 10);
        Check.due("of another word", x.critical(1, 0), 1);
        Check.due("of a hot word", x.critical(0, 1), 1);
        x = Check.with("a10b10/c");
        x.set(LIMIT, 10);
        Check.due("of a word as hot as LIMIT", x.critical(1, 0), 1);
        x = Check.with("a15b/c");
        x.set(LIMIT, 10);
        Check.due("of its neighbour", x.critical(0, 1), 7);
        Check.due("of the hot word, which boils", x.critical(0, 0), NONE);
        x.set(SPARK, 0);
        Check.due("of its neighbour without sparks", x.critical(0, 1), 10);
    }

    private static void touchiest() {
        HeatedStories x = new HeatedStories();
        Check.due("without stories", x.touchiest(1, 0), NONE);
        Check.due("without stories, by 0", x.touchiest(0, 0), BAD_VALUE);
        Check.due("without stories, what 3", x.touchiest(1, 3), BAD_VALUE);
        x = Check.with("ab/cd18e18/fg18h18");
        int[][] want = {{1, 0, 0, 0}, {2, 1, 1, 2}, {17, 1, 1, 2}, {20, 1, 0, 3}, {500, 1, 0, 3}};
        for (int[] row : want) {
            for (int what = 0; what < 3; what++) {
                Check.due("touchiest(" + row[0] + ", " + what + ")", x.touchiest(row[0], what), row[1 + what]);
            }
        }
        Check.due("by 501", x.touchiest(501, 0), BAD_VALUE);
        Check.due("by -1", x.touchiest(-1, 0), BAD_VALUE);
        Check.due("what -1", x.touchiest(1, -1), BAD_VALUE);
        Check.shows("nothing changes", x, "ab/cd18e18/fg18h18");
        Check.due("no change", x.count(12), 1);
        x = Check.with("ab/c15");
        x.set(LIMIT, 10);
        Check.due("a hot word reacts anyway", x.touchiest(1, 2), 1);
        Check.due("so that the first word is it", x.touchiest(1, 0), 0);
        x.pass(4);
        Check.due("nothing reacts", x.touchiest(2, 0), 0);
        Check.due("nothing reacts", x.touchiest(2, 1), 0);
        Check.due("nothing reacts", x.touchiest(2, 2), 0);
        Check.due("one word reacts", x.touchiest(3, 0), 1);
        x = Check.with("a/b19");
        Check.due("the last word of all", x.touchiest(1, 0), 1);
        Check.due("the last word of all", x.touchiest(1, 1), 0);
        Check.due("the last word of all", x.touchiest(1, 2), 1);
    }

    private static void coolestPair() {
        HeatedStories x = new HeatedStories();
        Check.due("without stories", x.coolestPair(0), NONE);
        Check.due("without stories, what 2", x.coolestPair(2), BAD_VALUE);
        Check.due("without stories, what -1", x.coolestPair(-1), BAD_VALUE);
        x = Check.with("a9/b/ca1c/ac/b9/a");
        Check.due("the coolest", x.coolestPair(0), 3);
        Check.due("the coolest", x.coolestPair(1), 5);
        x.burn(3);
        Check.due("of several", x.coolestPair(0), 0);
        Check.due("of several", x.coolestPair(1), 4);
        x = Check.with("a2/b1/a/b1/a2/a");
        Check.due("the lowest lower one is not the coolest", x.coolestPair(0), 2);
        Check.due("the lowest lower one is not the coolest", x.coolestPair(1), 5);
        x = Check.with("b/a/b/a/b");
        Check.due("the lowest lower one", x.coolestPair(0), 0);
        Check.due("the lowest higher one", x.coolestPair(1), 2);
        x = Check.with("c/a/a/d");
        Check.due("next to each other", x.coolestPair(0), 1);
        Check.due("next to each other", x.coolestPair(1), 2);
        x = Check.with("a/b/c");
        Check.due("no pair", x.coolestPair(0), NONE);
        Check.due("no pair", x.coolestPair(1), NONE);
    }

    /** 12 stories and 150 words: the last ones are looked at, and nothing behind them. */
    private static void fullHouse() {
        String z = "zzzzzzzzzzzz";
        HeatedStories x = Check.with("a" + z + "/b" + z + "/c" + z + "/d" + z);
        Check.type(x, "e" + z + "/f" + z + "/g" + z + "/h" + z);
        x.write();
        Check.type(x, "ijklmnopqrst/jzzzzz/kzzzzz/ly7" + z + "zzzz" + "z19z18z17z17");
        x.write();
        Check.due("stories", x.count(0), 12);
        Check.due("words", x.count(1), 150);
        Check.due("the last word", x.word(11, 21, 1), 17);
        Check.due("no word behind it", x.word(11, 22, 1), NO_SUCH);
        Check.due("z", x.letter(25, 0), 8 * 12 + 5 + 5 + 20);
        Check.due("stories with z", x.letter(25, 1), 11);
        Check.due("stories of z", x.letter(25, 2), 11);
        Check.due("heat of z", x.letter(25, 3), 71);
        Check.due("pairs", x.sideBySide(25, 25, 0), 8 * 11 + 4 + 4 + 19);
        Check.due("pairs at the end", x.sideBySide(24, 25, 1), 11);
        Check.due("common", x.common(7, 11), 12);
        Check.due("the lowest pair", x.coolestPair(1), 1);
        Check.due("a wave at the end", x.ifHeated(11, 21, 4, 0), 4);
        Check.due("no room", x.critical(11, 21), NONE);
        Check.due("touchiest", x.touchiest(1, 0), 11);
        Check.due("touchiest", x.touchiest(1, 1), 18);
        Check.due("touchiest", x.touchiest(1, 2), 4);
        Check.due("heated", x.heat(11, 18, 1), 4);
        Check.due("fizzles", x.count(6), 4);
        Check.due("the heat then", x.letter(25, 3), 3 + 3 + 3 + 3);
        Check.due("days", x.pass(1), 5 + 1 + 1 + 1 + 1);
        x.undo();
        x.undo();
        Check.due("burnt", x.burn(11), 22);
        Check.due("no heat is left", x.letter(25, 3), 0);
        Check.due("no y is left", x.letter(24, 0), 0);
        Check.due("stories with z", x.letter(25, 1), 10);
        Check.due("nothing is touchy", x.touchiest(19, 2), 0);
        Check.due("the first word is touchiest", x.touchiest(20, 0), 0);
        Check.due("room", x.critical(10, 5), 20);
    }
}
