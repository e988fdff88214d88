import java.util.ArrayList;
import java.util.HashMap;
import java.util.HashSet;
import java.util.List;
import java.util.Map;
import java.util.Set;
import java.util.TreeMap;

/** The document, word by word and with no thought of cost: ModelTest compares the program with it. */
final class PlainReactor {
    private static final int NO_SUCH = -1, BAD_VALUE = -2, BAD_TEXT = -3, TOO_MANY = -4, NOT_POSSIBLE = -5, NONE = -6;

    private static final class Word {
        char letter;
        int heat;

        Word(char letter, int heat) {
            this.letter = letter;
            this.heat = heat;
        }
    }

    private static final class Story {
        final List<Word> words = new ArrayList<>();
        int family;
        int generation;

        String letters() {
            StringBuilder all = new StringBuilder();
            for (Word word : words) {
                all.append(word.letter);
            }
            return all.toString();
        }

        int heat() {
            return words.stream().mapToInt(word -> word.heat).sum();
        }

        char theme() {
            Map<Character, Integer> times = new TreeMap<>();
            for (Word word : words) {
                times.merge(word.letter, 1, Integer::sum);
            }
            char theme = 0;
            for (char letter : times.keySet()) {
                if (theme == 0 || times.get(letter) > times.get(theme)) {
                    theme = letter;
                }
            }
            return theme;
        }
    }

    private static final class State {
        int limit = 20;
        int spark = 3;
        int cool = 2;
        List<Story> stories = new ArrayList<>();
        int families;
        int splits;
        int boilings;
        int fizzles;

        State copy() {
            State copy = new State();
            copy.limit = limit;
            copy.spark = spark;
            copy.cool = cool;
            copy.families = families;
            copy.splits = splits;
            copy.boilings = boilings;
            copy.fizzles = fizzles;
            for (Story story : stories) {
                Story twin = new Story();
                twin.family = story.family;
                twin.generation = story.generation;
                for (Word word : story.words) {
                    twin.words.add(new Word(word.letter, word.heat));
                }
                copy.stories.add(twin);
            }
            return copy;
        }

        int heat() {
            return stories.stream().mapToInt(Story::heat).sum();
        }

        int words() {
            return stories.stream().mapToInt(story -> story.words.size()).sum();
        }

        int reactions() {
            int reactions = 0;
            while (reactOnce()) {
                reactions++;
            }
            return reactions;
        }

        private boolean reactOnce() {
            for (int number = 0; number < stories.size(); number++) {
                Story story = stories.get(number);
                for (int place = 0; place < story.words.size(); place++) {
                    if (story.words.get(place).heat >= limit) {
                        reactAt(number, place);
                        return true;
                    }
                }
            }
            return false;
        }

        private void reactAt(int number, int place) {
            Story story = stories.get(number);
            Word hot = story.words.get(place);
            Word ahead = place > 0 ? story.words.get(place - 1) : null;
            Word behind = place + 1 < story.words.size() ? story.words.get(place + 1) : null;
            if (place > 0 && stories.size() < 12) {
                Story fresh = new Story();
                fresh.family = story.family;
                fresh.generation = story.generation + 1;
                while (story.words.size() > place) {
                    fresh.words.add(story.words.remove(place));
                }
                stories.add(number + 1, fresh);
                splits++;
            } else if (place == 0) {
                boilings++;
            } else {
                fizzles++;
            }
            hot.heat = 0;
            for (Word neighbour : new Word[] {ahead, behind}) {
                if (neighbour != null) {
                    heatUp(neighbour, spark);
                }
            }
        }

        private static void heatUp(Word word, int by) {
            word.heat = Math.min(999, word.heat + by);
        }
    }

    private State now = new State();
    private final List<State> history = new ArrayList<>();
    private final State[] slots = new State[2];
    private String pad = "";

    private void record() {
        history.add(now.copy());
        if (history.size() > 6) {
            history.remove(0);
        }
    }

    private boolean isStory(int story) {
        return story >= 0 && story < now.stories.size();
    }

    private boolean isWord(int story, int word) {
        return isStory(story) && word >= 0 && word < now.stories.get(story).words.size();
    }

    int set(int setting, int value) {
        int[] low = {10, 0, 0};
        int[] high = {99, 4, 20};
        if (setting < 0 || setting > 2 || value < low[setting] || value > high[setting]) {
            return BAD_VALUE;
        }
        record();
        int previous;
        if (setting == 0) {
            previous = now.limit;
            now.limit = value;
        } else if (setting == 1) {
            previous = now.spark;
            now.spark = value;
        } else {
            previous = now.cool;
            now.cool = value;
        }
        return previous;
    }

    int write() {
        if (fault() != NONE) {
            return BAD_TEXT;
        }
        String[] texts = pad.split("/");
        int words = pad.replaceAll("[^a-z]", "").length();
        if (now.stories.size() + texts.length > 12 || now.words() + words > 150) {
            return TOO_MANY;
        }
        record();
        for (String text : texts) {
            Story story = new Story();
            story.family = now.families++;
            for (String piece : text.split("(?=[a-z])")) {
                int heat = piece.length() > 1 ? Integer.parseInt(piece.substring(1)) : 0;
                story.words.add(new Word(piece.charAt(0), heat));
            }
            now.stories.add(story);
        }
        pad = "";
        now.reactions();
        return now.stories.size();
    }

    int heat(int story, int word, int by) {
        if (!isWord(story, word)) {
            return NO_SUCH;
        }
        if (by < 1 || by > 500) {
            return BAD_VALUE;
        }
        record();
        State.heatUp(now.stories.get(story).words.get(word), by);
        return now.reactions();
    }

    int read(int story, int by) {
        if (!isStory(story)) {
            return NO_SUCH;
        }
        if (by < 1 || by > 50) {
            return BAD_VALUE;
        }
        record();
        now.stories.get(story).words.forEach(word -> State.heatUp(word, by));
        return now.reactions();
    }

    int fuse(int story, int other) {
        if (!isStory(story) || !isStory(other)) {
            return NO_SUCH;
        }
        if (story == other) {
            return BAD_VALUE;
        }
        Story first = now.stories.get(story);
        Story second = now.stories.get(other);
        if (first.theme() != second.theme()) {
            return NOT_POSSIBLE;
        }
        record();
        Word last = first.words.get(first.words.size() - 1);
        Word next = second.words.get(0);
        first.words.addAll(second.words);
        first.generation = Math.max(first.generation, second.generation) + 1;
        now.stories.remove(other);
        State.heatUp(last, now.spark);
        State.heatUp(next, now.spark);
        return now.reactions();
    }

    int pass(int days) {
        if (days < 1 || days > 30) {
            return BAD_VALUE;
        }
        record();
        for (int day = 0; day < days; day++) {
            for (Story story : now.stories) {
                for (Word word : story.words) {
                    word.heat -= Math.min(word.heat, now.cool);
                }
            }
        }
        return now.heat();
    }

    int burn(int story) {
        if (!isStory(story)) {
            return NO_SUCH;
        }
        record();
        return now.stories.remove(story).words.size();
    }

    int word(int story, int word, int what) {
        if (!isWord(story, word)) {
            return NO_SUCH;
        }
        Word found = now.stories.get(story).words.get(word);
        switch (what) {
            case 0: return found.letter - 'a';
            case 1: return found.heat;
            case 2: return times(now.stories.get(story).letters(), found.letter);
            default: return BAD_VALUE;
        }
    }

    private static int times(String text, char letter) {
        return (int) text.chars().filter(one -> one == letter).count();
    }

    int story(int story, int what) {
        if (!isStory(story)) {
            return NO_SUCH;
        }
        Story found = now.stories.get(story);
        switch (what) {
            case 0: return found.words.size();
            case 1: return found.heat();
            case 2: return found.theme() - 'a';
            case 3: return found.family;
            case 4: return found.generation;
            case 5: return hottest(found);
            case 6: return (int) found.letters().chars().distinct().count();
            case 7: return new StringBuilder(found.letters()).reverse().toString().equals(found.letters()) ? 1 : 0;
            default: return BAD_VALUE;
        }
    }

    private static int hottest(Story story) {
        int greatest = story.words.stream().mapToInt(word -> word.heat).max().getAsInt();
        int place = 0;
        while (story.words.get(place).heat != greatest) {
            place++;
        }
        return place;
    }

    int count(int what) {
        Set<Integer> families = new HashSet<>();
        int generation = NONE;
        for (Story story : now.stories) {
            families.add(story.family);
            generation = Math.max(generation, story.generation);
        }
        switch (what) {
            case 0: return now.stories.size();
            case 1: return now.words();
            case 2: return now.heat();
            case 3: return families.size();
            case 4: return now.splits;
            case 5: return now.boilings;
            case 6: return now.fizzles;
            case 7: return generation;
            case 8: return now.limit;
            case 9: return now.spark;
            case 10: return now.cool;
            case 11: return pad.length();
            case 12: return history.size();
            default: return BAD_VALUE;
        }
    }

    int letter(int letter, int what) {
        if (letter < 0 || letter > 25 || what < 0 || what > 3) {
            return BAD_VALUE;
        }
        char wanted = (char) ('a' + letter);
        int[] found = new int[4];
        for (Story story : now.stories) {
            int times = times(story.letters(), wanted);
            found[0] += times;
            found[1] += times > 0 ? 1 : 0;
            found[2] += story.theme() == wanted ? 1 : 0;
            for (Word word : story.words) {
                found[3] += word.letter == wanted ? word.heat : 0;
            }
        }
        return found[what];
    }

    int sideBySide(int letter, int next, int what) {
        if (letter < 0 || letter > 25 || next < 0 || next > 25 || what < 0 || what > 2) {
            return BAD_VALUE;
        }
        String pair = "" + (char) ('a' + letter) + (char) ('a' + next);
        int times = 0;
        int story = NONE;
        int place = NONE;
        for (int number = 0; number < now.stories.size(); number++) {
            String letters = now.stories.get(number).letters();
            for (int at = letters.indexOf(pair); at >= 0; at = letters.indexOf(pair, at + 1)) {
                if (times++ == 0) {
                    story = number;
                    place = at;
                }
            }
        }
        return what == 0 ? times : what == 1 ? story : place;
    }

    int common(int story, int other) {
        if (!isStory(story) || !isStory(other)) {
            return NO_SUCH;
        }
        String one = now.stories.get(story).letters();
        String two = now.stories.get(other).letters();
        int longest = 0;
        for (int start = 0; start < one.length(); start++) {
            // a longer row than the longest one so far is all that matters
            while (start + longest + 1 <= one.length() && two.contains(one.substring(start, start + longest + 1))) {
                longest++;
            }
        }
        return longest;
    }

    int ifHeated(int story, int word, int by, int what) {
        if (!isWord(story, word)) {
            return NO_SUCH;
        }
        if (by < 1 || by > 500 || what < 0 || what > 3) {
            return BAD_VALUE;
        }
        return afterHeating(story, word, by)[what];
    }

    private int[] afterHeating(int story, int word, int by) {
        State then = now.copy();
        State.heatUp(then.stories.get(story).words.get(word), by);
        int reactions = then.reactions();
        return new int[] {reactions, then.splits - now.splits, then.stories.size(), then.heat()};
    }

    int critical(int story, int word) {
        if (!isWord(story, word)) {
            return NO_SUCH;
        }
        for (int by = 1; by <= 500; by++) {
            if (afterHeating(story, word, by)[1] > 0) {
                return by;
            }
        }
        return NONE;
    }

    int touchiest(int by, int what) {
        if (by < 1 || by > 500 || what < 0 || what > 2) {
            return BAD_VALUE;
        }
        int[] found = {NONE, NONE, NONE};
        for (int story = 0; story < now.stories.size(); story++) {
            for (int word = 0; word < now.stories.get(story).words.size(); word++) {
                int reactions = afterHeating(story, word, by)[0];
                if (found[0] == NONE || reactions > found[2]) {
                    found = new int[] {story, word, reactions};
                }
            }
        }
        return found[what];
    }

    int coolestPair(int what) {
        if (what < 0 || what > 1) {
            return BAD_VALUE;
        }
        Map<Integer, int[]> pairs = new HashMap<>();
        int coolest = Integer.MAX_VALUE;
        for (int lower = 0; lower < now.stories.size(); lower++) {
            for (int higher = lower + 1; higher < now.stories.size(); higher++) {
                Story one = now.stories.get(lower);
                Story two = now.stories.get(higher);
                if (one.theme() == two.theme()) {
                    pairs.putIfAbsent(one.heat() + two.heat(), new int[] {lower, higher});
                    coolest = Math.min(coolest, one.heat() + two.heat());
                }
            }
        }
        return pairs.isEmpty() ? NONE : pairs.get(coolest)[what];
    }

    int put(long characters) {
        String text = "";
        boolean ended = false;
        for (int index = 0; index < 8; index++) {
            int code = (int) (characters >> (8 * index)) & 255;
            if (code == 0) {
                ended = true;
            } else if (ended || code < 33 || code > 126) {
                return BAD_VALUE;
            } else {
                text = (char) code + text;
            }
        }
        if (text.isEmpty()) {
            return BAD_VALUE;
        }
        if (pad.length() + text.length() > 60) {
            return TOO_MANY;
        }
        pad += text;
        return pad.length();
    }

    int wipe() {
        int length = pad.length();
        pad = "";
        return length;
    }

    /** A text that stands so far goes on to a whole one with "", or with "a". */
    private static boolean stands(String text) {
        String story = "([a-z]([1-9][0-9]?)?)+";
        return text.matches(story + "(/" + story + ")*");
    }

    int fault() {
        for (int length = 1; length <= pad.length(); length++) {
            String start = pad.substring(0, length);
            if (!stands(start) && !stands(start + "a")) {
                return length - 1;
            }
        }
        return stands(pad) ? NONE : pad.length();
    }

    int undo() {
        if (history.isEmpty()) {
            return NOT_POSSIBLE;
        }
        now = history.remove(history.size() - 1);
        return history.size();
    }

    int save(int slot) {
        if (slot < 0 || slot > 1) {
            return BAD_VALUE;
        }
        slots[slot] = now.copy();
        return now.stories.size();
    }

    int restore(int slot) {
        if (slot < 0 || slot > 1) {
            return BAD_VALUE;
        }
        if (slots[slot] == null) {
            return NOT_POSSIBLE;
        }
        record();
        now = slots[slot].copy();
        return now.stories.size();
    }
}
