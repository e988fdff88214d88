/** Runs of 512 calls, made by a counter's hash: the program has to answer as PlainReactor does, and to stand as it does. */
public final class ModelTest {
    private static final int RUNS = 120;
    private static final int CALLS = 512;
    private static final int[] ODD = {-1, Integer.MIN_VALUE, Integer.MAX_VALUE, 151, 501, 26, 12};

    private final HeatedStories program = new HeatedStories();
    private final PlainReactor plain = new PlainReactor();
    private final int run;
    // few letters make like themes and common rows likely
    private final int letters;
    // some runs give wrong arguments often, others hardly ever
    private final int oddOnesIn;
    private long seed;

    private ModelTest(int run) {
        this.run = run;
        this.letters = 1 + run % 5;
        this.oddOnesIn = run % 2 == 0 ? 12 : 200;
        this.seed = run * 7919L + 1;
    }

    public static void main(String[] args) {
        for (int run = 0; run < RUNS && !Check.anyWrong(); run++) {
            new ModelTest(run).go();
        }
        Check.end();
    }

    private void go() {
        for (int call = 0; call < CALLS && !Check.anyWrong(); call++) {
            step(below(24));
            if (call % 8 == 0) {
                compareAll();
            }
        }
    }

    private int below(int bound) {
        seed = seed * 6364136223846793005L + 1442695040888963407L;
        return (int) ((seed >>> 33) % bound);
    }

    private int oneOf(int lowest, int highest) {
        return below(oddOnesIn) == 0 ? odd() : lowest + below(highest - lowest + 1);
    }

    private int odd() {
        return ODD[below(ODD.length)];
    }

    private int story() {
        return oneOf(0, Math.max(0, plain.count(0) - 1));
    }

    private int wordOf(int story) {
        return oneOf(0, Math.max(0, plain.story(story, 0) - 1));
    }

    private int heating() {
        return below(3) == 0 ? oneOf(1, 500) : oneOf(1, 30);
    }

    private int letter() {
        return oneOf(0, letters);
    }

    private void due(String name, int[] arguments, int got, int want) {
        if (got == want) {
            Check.due("", got, want);
        } else {
            Check.due("run " + run + ": " + name + java.util.Arrays.toString(arguments), got, want);
        }
    }

    private void step(int kind) {
        int story = story();
        int word = wordOf(story);
        int other = story();
        switch (kind) {
            case 0: two("set", oneOf(0, 2), below(2)); break;
            case 1: case 2: case 3: typeAndWrite(); break;
            case 4: case 5: case 6: {
                int by = heating();
                due("heat", new int[] {story, word, by}, program.heat(story, word, by), plain.heat(story, word, by));
                break;
            }
            case 7: {
                int by = oneOf(1, 50);
                due("read", new int[] {story, by}, program.read(story, by), plain.read(story, by));
                break;
            }
            case 8: case 9: case 10:
                due("fuse", new int[] {story, other}, program.fuse(story, other), plain.fuse(story, other));
                break;
            case 11: {
                int days = oneOf(1, 30);
                due("pass", new int[] {days}, program.pass(days), plain.pass(days));
                break;
            }
            case 12: case 13:
                if (below(2) == 0) {
                    due("burn", new int[] {story}, program.burn(story), plain.burn(story));
                }
                break;
            case 14: undoOrSlots(); break;
            case 15: {
                int by = heating();
                int what = oneOf(0, 3);
                due("ifHeated", new int[] {story, word, by, what}, program.ifHeated(story, word, by, what),
                    plain.ifHeated(story, word, by, what));
                break;
            }
            case 16: due("critical", new int[] {story, word}, program.critical(story, word), plain.critical(story, word)); break;
            case 17: touchiest(); break;
            default: look(story, word, other); break;
        }
    }

    private void two(String name, int setting, int narrow) {
        int[] low = {10, 0, 0};
        int[] high = {99, 4, 20};
        boolean known = setting >= 0 && setting < 3;
        int lowest = known ? low[setting] : 0;
        int highest = known ? (setting == 0 && narrow == 0 ? 14 : high[setting]) : 20;
        int value = below(10) == 0 ? lowest - 1 : below(10) == 0 ? highest + 1 : oneOf(lowest, highest);
        due(name, new int[] {setting, value}, program.set(setting, value), plain.set(setting, value));
    }

    private void typeAndWrite() {
        String text = below(10) == 0 ? anyText() : goodText();
        for (int start = 0; start < text.length(); start += 8) {
            putLong(Check.coded(text.substring(start, Math.min(start + 8, text.length()))));
        }
        if (below(20) == 0) {
            putLong(below(2) == 0 ? odd() : (long) below(1 << 30) << below(33));
        }
        due("fault", new int[0], program.fault(), plain.fault());
        due("write", new int[0], program.write(), plain.write());
        if (below(3) > 0) {
            due("wipe", new int[0], program.wipe(), plain.wipe());
        }
    }

    private void putLong(long characters) {
        due("put " + characters, new int[0], program.put(characters), plain.put(characters));
    }

    private String anyText() {
        String signs = "abcz/019!A{";
        StringBuilder text = new StringBuilder();
        for (int left = below(12); left > 0; left--) {
            text.append(signs.charAt(below(signs.length())));
        }
        return text.toString();
    }

    private String goodText() {
        StringBuilder text = new StringBuilder();
        int words = below(4) == 0 ? 20 + below(35) : 1 + below(12);
        int hot = below(3);
        for (int word = 0; word < words && text.length() < 54; word++) {
            text.append(word > 0 && below(8) == 0 ? "/" : "");
            text.append((char) ('a' + (below(30) == 0 ? 25 : below(letters))));
            text.append(below(3) < hot ? String.valueOf(1 + below(below(6) == 0 ? 99 : 19)) : "");
        }
        return text.toString();
    }

    private void undoOrSlots() {
        int slot = oneOf(0, 1);
        switch (below(4)) {
            case 0: due("save", new int[] {slot}, program.save(slot), plain.save(slot)); break;
            case 1: due("restore", new int[] {slot}, program.restore(slot), plain.restore(slot)); break;
            default:
                for (int times = below(8); times >= 0; times--) {
                    due("undo", new int[0], program.undo(), plain.undo());
                }
                break;
        }
    }

    private void touchiest() {
        int by = heating();
        for (int what = -1; what < 4; what++) {
            due("touchiest", new int[] {by, what}, program.touchiest(by, what), plain.touchiest(by, what));
        }
    }

    private void look(int story, int word, int other) {
        int what = oneOf(-1, 13);
        int letter = letter();
        int next = letter();
        due("word", new int[] {story, word, what}, program.word(story, word, what), plain.word(story, word, what));
        due("story", new int[] {story, what}, program.story(story, what), plain.story(story, what));
        due("letter", new int[] {letter, what}, program.letter(letter, what), plain.letter(letter, what));
        due("sideBySide", new int[] {letter, next, what}, program.sideBySide(letter, next, what),
            plain.sideBySide(letter, next, what));
        due("common", new int[] {story, other}, program.common(story, other), plain.common(story, other));
        due("coolestPair", new int[] {what}, program.coolestPair(what), plain.coolestPair(what));
        due("count", new int[] {what}, program.count(what), plain.count(what));
    }

    private void compareAll() {
        for (int what = 0; what < 13; what++) {
            due("count", new int[] {what}, program.count(what), plain.count(what));
        }
        due("coolestPair", new int[] {0}, program.coolestPair(0), plain.coolestPair(0));
        due("coolestPair", new int[] {1}, program.coolestPair(1), plain.coolestPair(1));
        for (int story = 0; story < plain.count(0); story++) {
            for (int what = 0; what < 8; what++) {
                due("story", new int[] {story, what}, program.story(story, what), plain.story(story, what));
            }
            for (int word = 0; word < plain.story(story, 0); word++) {
                due("word", new int[] {story, word, 0}, program.word(story, word, 0), plain.word(story, word, 0));
                due("word", new int[] {story, word, 1}, program.word(story, word, 1), plain.word(story, word, 1));
            }
        }
    }
}
