import java.util.ArrayList;
import java.util.List;
import java.util.function.ToIntFunction;

/** Runs of calls, made by a counter's hash: the program has to answer as PlainReactor does, and to stand as it does. */
public final class ModelTest {
    private static final int RUNS = 600;
    // of one object: what it answers behind them is free
    private static final int MOST_CALLS = 512;
    // leaves room for questions to an object that stands the same
    private static final int CALLS = 440;
    // no step makes more calls
    private static final int STEP = 24;
    private static final int[] ODD = {-1, Integer.MIN_VALUE, Integer.MAX_VALUE, 151, 501, 26, 12};

    private record Question(String name, ToIntFunction<HeatedStories> call, int want) {
    }

    private final HeatedStories program = new HeatedStories();
    private final PlainReactor plain = new PlainReactor();
    private final int run;
    // few letters make like themes and common rows likely
    private final int letters;
    // some runs give wrong arguments often, others hardly ever
    private final int oddOnesIn;
    // some runs write long stories and hardly ever burn one, so that there are many words
    private final boolean isLong;
    // all calls so far that can change something: made again, they make an object that stands the same
    private final List<ToIntFunction<HeatedStories>> acts = new ArrayList<>();
    private final List<Question> questions = new ArrayList<>();
    private int calls;
    private long seed;

    private ModelTest(int run) {
        this.run = run;
        this.letters = 1 + run % 5;
        this.oddOnesIn = run % 2 == 0 ? 12 : 200;
        this.isLong = run % 3 == 0;
        this.seed = run * 7919L + 1;
    }

    public static void main(String[] args) {
        for (int run = 0; run < RUNS && !Check.anyWrong(); run++) {
            new ModelTest(run).go();
        }
        Check.end();
    }

    private void go() {
        for (int step = 0; calls + STEP <= CALLS && !Check.anyWrong(); step++) {
            step(below(24));
            if (step % 16 == 0) {
                compareAll();
            }
        }
        compareAll();
    }

    private int below(int bound) {
        seed = seed * 6364136223846793005L + 1442695040888963407L;
        return (int) ((seed >>> 33) % bound);
    }

    private int oneOf(int lowest, int highest) {
        return below(oddOnesIn) == 0 ? odd() : lowest + below(highest - lowest + 1);
    }

    private int odd() {
        return ODD[below(ODD.length)];
    }

    private int story() {
        return oneOf(0, Math.max(0, plain.count(0) - 1));
    }

    private int wordOf(int story) {
        return oneOf(0, Math.max(0, plain.story(story, 0) - 1));
    }

    private int heating() {
        return below(3) == 0 ? oneOf(1, 500) : oneOf(1, 30);
    }

    private int letter() {
        return oneOf(0, letters);
    }

    private static String shown(String name, long... arguments) {
        String list = java.util.Arrays.toString(arguments);
        return name + "(" + list.substring(1, list.length() - 1) + ")";
    }

    /** A call that can change something. */
    private void act(String name, ToIntFunction<HeatedStories> call, int want) {
        acts.add(call);
        ask(name, call, want);
    }

    private void ask(String name, ToIntFunction<HeatedStories> call, int want) {
        calls++;
        Check.due("run " + run + ", call " + calls + ": " + name, call.applyAsInt(program), want);
    }

    private void step(int kind) {
        int story = story();
        int word = wordOf(story);
        int other = story();
        switch (kind) {
            case 0: set(oneOf(0, 2), below(2)); break;
            case 1: case 2: case 3: typeAndWrite(); break;
            case 4: case 5: case 6: {
                int by = heating();
                act(shown("heat", story, word, by), x -> x.heat(story, word, by), plain.heat(story, word, by));
                break;
            }
            case 7: {
                int by = oneOf(1, 50);
                act(shown("read", story, by), x -> x.read(story, by), plain.read(story, by));
                break;
            }
            case 8: case 9: case 10:
                act(shown("fuse", story, other), x -> x.fuse(story, other), plain.fuse(story, other));
                break;
            case 11: {
                int days = oneOf(1, 30);
                act(shown("pass", days), x -> x.pass(days), plain.pass(days));
                break;
            }
            case 12: case 13:
                if (below(isLong ? 8 : 2) == 0) {
                    act(shown("burn", story), x -> x.burn(story), plain.burn(story));
                }
                break;
            case 14: undoOrSlots(); break;
            case 15: {
                int by = heating();
                int what = oneOf(0, 3);
                ask(shown("ifHeated", story, word, by, what), x -> x.ifHeated(story, word, by, what),
                    plain.ifHeated(story, word, by, what));
                break;
            }
            case 16: ask(shown("critical", story, word), x -> x.critical(story, word), plain.critical(story, word)); break;
            case 17: touchiest(); break;
            default: look(story, word, other); break;
        }
    }

    private void set(int setting, int narrow) {
        int[] low = {10, 0, 0};
        int[] high = {99, 4, 20};
        boolean known = setting >= 0 && setting < 3;
        int lowest = known ? low[setting] : 0;
        int highest = known ? (setting == 0 && narrow == 0 ? 14 : high[setting]) : 20;
        int value = below(10) == 0 ? lowest - 1 : below(10) == 0 ? highest + 1 : oneOf(lowest, highest);
        act(shown("set", setting, value), x -> x.set(setting, value), plain.set(setting, value));
    }

    private void typeAndWrite() {
        String text = below(10) == 0 ? anyText() : goodText();
        for (int start = 0; start < text.length(); start += 8) {
            put(Check.coded(text.substring(start, Math.min(start + 8, text.length()))));
        }
        if (below(20) == 0) {
            put(below(2) == 0 ? odd() : (long) below(1 << 30) << below(33));
        }
        ask("fault()", x -> x.fault(), plain.fault());
        act("write()", x -> x.write(), plain.write());
        if (below(3) > 0) {
            act("wipe()", x -> x.wipe(), plain.wipe());
        }
    }

    private void put(long characters) {
        act(shown("put", characters), x -> x.put(characters), plain.put(characters));
    }

    private String anyText() {
        String signs = "abcz/019!A{";
        StringBuilder text = new StringBuilder();
        for (int left = below(12); left > 0; left--) {
            text.append(signs.charAt(below(signs.length())));
        }
        return text.toString();
    }

    private String goodText() {
        StringBuilder text = new StringBuilder();
        int words = below(4) == 0 || isLong ? 20 + below(35) : 1 + below(12);
        int hot = below(3);
        for (int word = 0; word < words && text.length() < 54; word++) {
            text.append(word > 0 && below(isLong ? 24 : 8) == 0 ? "/" : "");
            text.append((char) ('a' + (below(30) == 0 ? 25 : below(letters))));
            text.append(below(3) < hot ? String.valueOf(1 + below(below(6) == 0 ? 99 : 19)) : "");
        }
        return text.toString();
    }

    private void undoOrSlots() {
        int slot = oneOf(0, 1);
        switch (below(4)) {
            case 0: act(shown("save", slot), x -> x.save(slot), plain.save(slot)); break;
            case 1: act(shown("restore", slot), x -> x.restore(slot), plain.restore(slot)); break;
            default:
                for (int times = below(8); times >= 0; times--) {
                    act("undo()", x -> x.undo(), plain.undo());
                }
                break;
        }
    }

    private void touchiest() {
        int by = heating();
        for (int number = -1; number < 4; number++) {
            int what = number;
            ask(shown("touchiest", by, what), x -> x.touchiest(by, what), plain.touchiest(by, what));
        }
    }

    private void look(int story, int word, int other) {
        int what = oneOf(-1, 13);
        int letter = letter();
        int next = letter();
        ask(shown("word", story, word, what), x -> x.word(story, word, what), plain.word(story, word, what));
        ask(shown("story", story, what), x -> x.story(story, what), plain.story(story, what));
        ask(shown("letter", letter, what), x -> x.letter(letter, what), plain.letter(letter, what));
        ask(shown("sideBySide", letter, next, what), x -> x.sideBySide(letter, next, what),
            plain.sideBySide(letter, next, what));
        ask(shown("common", story, other), x -> x.common(story, other), plain.common(story, other));
        ask(shown("coolestPair", what), x -> x.coolestPair(what), plain.coolestPair(what));
        ask(shown("count", what), x -> x.count(what), plain.count(what));
    }

    // ---- everything compared, by objects that stand the same

    private void compareAll() {
        questions.clear();
        for (int number = 0; number < 13; number++) {
            int what = number;
            question("count(" + what + ")", x -> x.count(what), plain.count(what));
        }
        question("coolestPair(0)", x -> x.coolestPair(0), plain.coolestPair(0));
        question("coolestPair(1)", x -> x.coolestPair(1), plain.coolestPair(1));
        for (int number = 0; number < plain.count(0); number++) {
            int story = number;
            for (int which = 0; which < 8; which++) {
                int what = which;
                question(shown("story", story, what), x -> x.story(story, what), plain.story(story, what));
            }
            for (int place = 0; place < plain.story(story, 0); place++) {
                int word = place;
                question(shown("word", story, word, 0), x -> x.word(story, word, 0), plain.word(story, word, 0));
                question(shown("word", story, word, 1), x -> x.word(story, word, 1), plain.word(story, word, 1));
            }
        }
        answerAll();
    }

    private void question(String name, ToIntFunction<HeatedStories> call, int want) {
        questions.add(new Question(name, call, want));
    }

    private void answerAll() {
        int left = 0;
        HeatedStories twin = null;
        for (Question question : questions) {
            if (left == 0) {
                twin = twin();
                left = MOST_CALLS - acts.size();
            }
            Check.due("run " + run + ", behind call " + calls + ": " + question.name(),
                question.call().applyAsInt(twin), question.want());
            left--;
        }
    }

    private HeatedStories twin() {
        HeatedStories twin = new HeatedStories();
        for (ToIntFunction<HeatedStories> act : acts) {
            act.applyAsInt(twin);
        }
        return twin;
    }
}
