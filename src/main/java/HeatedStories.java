import java.util.Arrays;

/** A reactor of very short stories; the promises of ../shared/DOC.md say what each call answers. */
public final class HeatedStories {
    public static final int NO_SUCH = -1, BAD_VALUE = -2, BAD_TEXT = -3, TOO_MANY = -4, NOT_POSSIBLE = -5, NONE = -6;
    public static final int LIMIT = 0, SPARK = 1, COOL = 2;

    private static final int SETTINGS = 3;
    private static final int[] LOWEST = {10, 0, 0};
    private static final int[] HIGHEST = {99, 4, 20};
    private static final int MOST_STORIES = 12;
    private static final int MOST_WORDS = 150;
    private static final int MOST_HEAT = 999;
    private static final int LETTERS = 26;
    private static final int MOST_HEATING = 500;
    private static final int MOST_READING = 50;
    private static final int MOST_DAYS = 30;
    private static final int MOST_UNDOS = 6;
    private static final int SLOTS = 2;

    private final Shelf now = new Shelf();
    // what-ifs run here, so that the stories that there are stay untouched
    private final Shelf trial = new Shelf();
    private final History history = new History();
    private final Shelf[] slots = new Shelf[SLOTS];
    private final boolean[] saved = new boolean[SLOTS];
    private final Pad pad = new Pad();
    // rows that calls use again, so that no call makes a new one
    private final int[] runs = new int[MOST_WORDS];
    private final int[] themes = new int[MOST_STORIES];
    private final int[] storyHeats = new int[MOST_STORIES];

    public HeatedStories() {
        for (int slot = 0; slot < SLOTS; slot++) {
            slots[slot] = new Shelf();
        }
    }

    // ---- changes

    public int set(int setting, int value) {
        if (!isWithin(setting, 0, SETTINGS - 1) || !isWithin(value, LOWEST[setting], HIGHEST[setting])) {
            return BAD_VALUE;
        }
        history.record(now);
        int previous = now.settings[setting];
        now.settings[setting] = value;
        return previous;
    }

    public int write() {
        if (pad.firstFault() != NONE) {
            return BAD_TEXT;
        }
        if (now.stories + pad.storiesIn() > MOST_STORIES || now.words() + pad.wordsIn() > MOST_WORDS) {
            return TOO_MANY;
        }
        history.record(now);
        pad.writeTo(now);
        pad.length = 0;
        now.react();
        return now.stories;
    }

    public int heat(int story, int word, int by) {
        if (!now.hasWord(story, word)) {
            return NO_SUCH;
        }
        if (!isWithin(by, 1, MOST_HEATING)) {
            return BAD_VALUE;
        }
        history.record(now);
        now.warm(now.starts[story] + word, by);
        return now.react();
    }

    public int read(int story, int by) {
        if (!now.hasStory(story)) {
            return NO_SUCH;
        }
        if (!isWithin(by, 1, MOST_READING)) {
            return BAD_VALUE;
        }
        history.record(now);
        for (int position = now.starts[story]; position < now.starts[story + 1]; position++) {
            now.warm(position, by);
        }
        return now.react();
    }

    public int fuse(int story, int other) {
        if (!now.hasStory(story) || !now.hasStory(other)) {
            return NO_SUCH;
        }
        if (story == other) {
            return BAD_VALUE;
        }
        if (now.themeOf(story) != now.themeOf(other)) {
            return NOT_POSSIBLE;
        }
        history.record(now);
        trial.copyFrom(now);
        now.remove(other);
        int fused = other < story ? story - 1 : story;
        int seam = now.starts[fused + 1];
        now.append(fused, trial, other);
        now.generations[fused] = 1 + Math.max(trial.generations[story], trial.generations[other]);
        now.warm(seam - 1, now.settings[SPARK]);
        now.warm(seam, now.settings[SPARK]);
        return now.react();
    }

    public int pass(int days) {
        if (!isWithin(days, 1, MOST_DAYS)) {
            return BAD_VALUE;
        }
        history.record(now);
        int loss = days * now.settings[COOL];
        for (int position = 0; position < now.words(); position++) {
            now.heats[position] = Math.max(0, now.heats[position] - loss);
        }
        return now.heatOfAll();
    }

    public int burn(int story) {
        if (!now.hasStory(story)) {
            return NO_SUCH;
        }
        history.record(now);
        int size = now.sizeOf(story);
        now.remove(story);
        return size;
    }

    // ---- what there is; nothing changes

    public int word(int story, int word, int what) {
        if (!now.hasWord(story, word)) {
            return NO_SUCH;
        }
        int position = now.starts[story] + word;
        switch (what) {
            case 0: return now.letters[position];
            case 1: return now.heats[position];
            case 2: return now.timesIn(story, now.letters[position]);
            default: return BAD_VALUE;
        }
    }

    public int story(int story, int what) {
        if (!now.hasStory(story)) {
            return NO_SUCH;
        }
        switch (what) {
            case 0: return now.sizeOf(story);
            case 1: return now.heatOf(story);
            case 2: return now.themeOf(story);
            case 3: return now.families[story];
            case 4: return now.generations[story];
            case 5: return now.hottestOf(story);
            case 6: return now.unlikeLettersOf(story);
            case 7: return now.readsFromBothEnds(story) ? 1 : 0;
            default: return BAD_VALUE;
        }
    }

    public int count(int what) {
        switch (what) {
            case 0: return now.stories;
            case 1: return now.words();
            case 2: return now.heatOfAll();
            case 3: return now.unlikeFamilies();
            case 4: return now.splits;
            case 5: return now.boilings;
            case 6: return now.fizzles;
            case 7: return now.greatestGeneration();
            case 8: return now.settings[LIMIT];
            case 9: return now.settings[SPARK];
            case 10: return now.settings[COOL];
            case 11: return pad.length;
            case 12: return history.size;
            default: return BAD_VALUE;
        }
    }

    public int letter(int letter, int what) {
        if (!isLetter(letter)) {
            return BAD_VALUE;
        }
        switch (what) {
            case 0: return now.timesInAll(letter);
            case 1: return now.storiesWith(letter);
            case 2: return now.storiesOfTheme(letter);
            case 3: return now.heatOfLetter(letter);
            default: return BAD_VALUE;
        }
    }

    public int sideBySide(int letter, int next, int what) {
        if (!isLetter(letter) || !isLetter(next) || !isWithin(what, 0, 2)) {
            return BAD_VALUE;
        }
        int times = 0;
        int first = NONE;
        for (int position = 0; position + 1 < now.words(); position++) {
            if (now.isPair(position, letter, next)) {
                first = times == 0 ? position : first;
                times++;
            }
        }
        if (what == 0) {
            return times;
        }
        if (times == 0) {
            return NONE;
        }
        return what == 1 ? now.storyAt(first) : now.placeOf(first);
    }

    public int common(int story, int other) {
        if (!now.hasStory(story) || !now.hasStory(other)) {
            return NO_SUCH;
        }
        int start = now.starts[other];
        int size = now.sizeOf(other);
        Arrays.fill(runs, 0);
        int longest = 0;
        for (int position = now.starts[story]; position < now.starts[story + 1]; position++) {
            // from the end on, since each run continues the one that ended a place before, a word earlier
            for (int place = size - 1; place >= 0; place--) {
                boolean same = now.letters[position] == now.letters[start + place];
                int before = place > 0 ? runs[place - 1] : 0;
                runs[place] = same ? before + 1 : 0;
                longest = Math.max(longest, runs[place]);
            }
        }
        return longest;
    }

    // ---- what if; nothing changes

    public int ifHeated(int story, int word, int by, int what) {
        if (!now.hasWord(story, word)) {
            return NO_SUCH;
        }
        if (!isWithin(by, 1, MOST_HEATING) || !isWithin(what, 0, 3)) {
            return BAD_VALUE;
        }
        int reactions = tryHeating(now.starts[story] + word, by);
        switch (what) {
            case 0: return reactions;
            case 1: return trial.splits - now.splits;
            case 2: return trial.stories;
            default: return trial.heatOfAll();
        }
    }

    public int critical(int story, int word) {
        if (!now.hasWord(story, word)) {
            return NO_SUCH;
        }
        int position = now.starts[story] + word;
        // more heat than the word needs to react is lost in its reaction, so it brings nothing else
        int enough = Math.max(1, now.settings[LIMIT] - now.heats[position]);
        // less heat brings reactions only if other words are too hot already (behind a lowered LIMIT)
        int least = now.isCalm() ? enough : 1;
        for (int by = least; by <= enough; by++) {
            tryHeating(position, by);
            if (trial.splits > now.splits) {
                return by;
            }
        }
        return NONE;
    }

    public int touchiest(int by, int what) {
        if (!isWithin(by, 1, MOST_HEATING) || !isWithin(what, 0, 2)) {
            return BAD_VALUE;
        }
        if (now.stories == 0) {
            return NONE;
        }
        boolean calm = now.isCalm();
        int touchiest = 0;
        int most = -1;
        for (int position = 0; position < now.words(); position++) {
            // trials are dear: none where it is plain that nothing would react
            boolean quiet = calm && now.heats[position] + by < now.settings[LIMIT];
            int reactions = quiet ? 0 : tryHeating(position, by);
            if (reactions > most) {
                most = reactions;
                touchiest = position;
            }
        }
        switch (what) {
            case 0: return now.storyAt(touchiest);
            case 1: return now.placeOf(touchiest);
            default: return most;
        }
    }

    public int coolestPair(int what) {
        if (!isWithin(what, 0, 1)) {
            return BAD_VALUE;
        }
        for (int story = 0; story < now.stories; story++) {
            themes[story] = now.themeOf(story);
            storyHeats[story] = now.heatOf(story);
        }
        int lower = NONE;
        int higher = NONE;
        int least = 0;
        for (int one = 0; one < now.stories; one++) {
            for (int two = one + 1; two < now.stories; two++) {
                int together = storyHeats[one] + storyHeats[two];
                if (themes[one] == themes[two] && (lower == NONE || together < least)) {
                    least = together;
                    lower = one;
                    higher = two;
                }
            }
        }
        return what == 0 ? lower : higher;
    }

    // ---- texts

    public int put(long characters) {
        int added = Pad.charactersIn(characters);
        if (added == 0) {
            return BAD_VALUE;
        }
        if (pad.length + added > Pad.MOST) {
            return TOO_MANY;
        }
        pad.add(characters, added);
        return pad.length;
    }

    public int wipe() {
        int length = pad.length;
        pad.length = 0;
        return length;
    }

    public int fault() {
        return pad.firstFault();
    }

    // ---- undo, saving

    public int undo() {
        if (history.size == 0) {
            return NOT_POSSIBLE;
        }
        history.takeBack(now);
        return history.size;
    }

    public int save(int slot) {
        if (!isWithin(slot, 0, SLOTS - 1)) {
            return BAD_VALUE;
        }
        slots[slot].copyFrom(now);
        saved[slot] = true;
        return now.stories;
    }

    public int restore(int slot) {
        if (!isWithin(slot, 0, SLOTS - 1)) {
            return BAD_VALUE;
        }
        if (!saved[slot]) {
            return NOT_POSSIBLE;
        }
        history.record(now);
        now.copyFrom(slots[slot]);
        return now.stories;
    }

    // ---- helpers

    private int tryHeating(int position, int by) {
        trial.copyFrom(now);
        trial.warm(position, by);
        return trial.react();
    }

    private static boolean isWithin(int value, int lowest, int highest) {
        return value >= lowest && value <= highest;
    }

    private static boolean isLetter(int letter) {
        return isWithin(letter, 0, LETTERS - 1);
    }

    /**
     * The stories, the settings and the counters: all that undo and the slots keep.
     * The words of all stories stand in one row, story behind story, so that a split
     * only sets a border, and the first word that is too hot is the first one in the row.
     */
    private static final class Shelf {
        // far above what reactions can need: each takes at least LIMIT - 2 * SPARK of at most LIMIT a word
        static final int MOST_STEPS = 1000000;

        final int[] settings = {20, 3, 2};
        final int[] letters = new int[MOST_WORDS];
        final int[] heats = new int[MOST_WORDS];
        // story s stands from starts[s] to ahead of starts[s + 1]; starts[0] is 0
        final int[] starts = new int[MOST_STORIES + 1];
        final int[] families = new int[MOST_STORIES];
        final int[] generations = new int[MOST_STORIES];
        final int[] tally = new int[LETTERS];
        int stories;
        int nextFamily;
        int splits;
        int boilings;
        int fizzles;

        void copyFrom(Shelf source) {
            int words = source.words();
            System.arraycopy(source.settings, 0, settings, 0, SETTINGS);
            System.arraycopy(source.letters, 0, letters, 0, words);
            System.arraycopy(source.heats, 0, heats, 0, words);
            System.arraycopy(source.starts, 0, starts, 0, source.stories + 1);
            System.arraycopy(source.families, 0, families, 0, source.stories);
            System.arraycopy(source.generations, 0, generations, 0, source.stories);
            stories = source.stories;
            nextFamily = source.nextFamily;
            splits = source.splits;
            boilings = source.boilings;
            fizzles = source.fizzles;
        }

        int words() {
            return starts[stories];
        }

        boolean hasStory(int story) {
            return isWithin(story, 0, stories - 1);
        }

        boolean hasWord(int story, int word) {
            return hasStory(story) && isWithin(word, 0, sizeOf(story) - 1);
        }

        int sizeOf(int story) {
            return starts[story + 1] - starts[story];
        }

        int storyAt(int position) {
            int story = 0;
            while (story + 1 < stories && starts[story + 1] <= position) {
                story++;
            }
            return story;
        }

        int placeOf(int position) {
            return position - starts[storyAt(position)];
        }

        // ---- changes

        void addStory() {
            families[stories] = nextFamily;
            generations[stories] = 0;
            starts[stories + 1] = starts[stories];
            nextFamily++;
            stories++;
        }

        void addWord(int letter) {
            int position = words();
            letters[position] = letter;
            heats[position] = 0;
            starts[stories] = position + 1;
        }

        void addDigit(int digit) {
            int last = words() - 1;
            heats[last] = heats[last] * 10 + digit;
        }

        void warm(int position, int by) {
            heats[position] = Math.min(MOST_HEAT, heats[position] + by);
        }

        void remove(int story) {
            int start = starts[story];
            int end = starts[story + 1];
            int wordsBehind = words() - end;
            int storiesBehind = stories - 1 - story;
            System.arraycopy(letters, end, letters, start, wordsBehind);
            System.arraycopy(heats, end, heats, start, wordsBehind);
            System.arraycopy(families, story + 1, families, story, storiesBehind);
            System.arraycopy(generations, story + 1, generations, story, storiesBehind);
            for (int later = story; later < stories; later++) {
                starts[later] = starts[later + 1] - (end - start);
            }
            stories--;
        }

        void append(int story, Shelf source, int sourceStory) {
            int end = starts[story + 1];
            int from = source.starts[sourceStory];
            int size = source.sizeOf(sourceStory);
            int wordsBehind = words() - end;
            System.arraycopy(letters, end, letters, end + size, wordsBehind);
            System.arraycopy(heats, end, heats, end + size, wordsBehind);
            System.arraycopy(source.letters, from, letters, end, size);
            System.arraycopy(source.heats, from, heats, end, size);
            for (int later = story + 1; later <= stories; later++) {
                starts[later] += size;
            }
        }

        // ---- reactions

        boolean isCalm() {
            for (int position = 0; position < words(); position++) {
                if (heats[position] >= settings[LIMIT]) {
                    return false;
                }
            }
            return true;
        }

        int react() {
            int reactions = 0;
            int position = 0;
            for (int step = 0; step < MOST_STEPS && position < words(); step++) {
                if (heats[position] < settings[LIMIT]) {
                    position++;
                } else {
                    reactAt(position);
                    reactions++;
                    // of the words ahead, only the next one was heated
                    position = Math.max(0, position - 1);
                }
            }
            return reactions;
        }

        void reactAt(int position) {
            int story = storyAt(position);
            int start = starts[story];
            int end = starts[story + 1];
            if (position == start) {
                boilings++;
            } else if (stories < MOST_STORIES) {
                splits++;
                split(story, position);
            } else {
                fizzles++;
            }
            heats[position] = 0;
            if (position > start) {
                warm(position - 1, settings[SPARK]);
            }
            if (position + 1 < end) {
                warm(position + 1, settings[SPARK]);
            }
        }

        void split(int story, int position) {
            int storiesFromHere = stories - story;
            System.arraycopy(starts, story + 1, starts, story + 2, storiesFromHere);
            starts[story + 1] = position;
            System.arraycopy(families, story, families, story + 1, storiesFromHere);
            System.arraycopy(generations, story, generations, story + 1, storiesFromHere);
            generations[story + 1]++;
            stories++;
        }

        // ---- what there is

        int heatBetween(int start, int end) {
            int sum = 0;
            for (int position = start; position < end; position++) {
                sum += heats[position];
            }
            return sum;
        }

        int heatOf(int story) {
            return heatBetween(starts[story], starts[story + 1]);
        }

        int heatOfAll() {
            return heatBetween(0, words());
        }

        int timesBetween(int start, int end, int letter) {
            int times = 0;
            for (int position = start; position < end; position++) {
                times += letters[position] == letter ? 1 : 0;
            }
            return times;
        }

        int timesIn(int story, int letter) {
            return timesBetween(starts[story], starts[story + 1], letter);
        }

        int timesInAll(int letter) {
            return timesBetween(0, words(), letter);
        }

        void tallyOf(int story) {
            Arrays.fill(tally, 0);
            for (int position = starts[story]; position < starts[story + 1]; position++) {
                tally[letters[position]]++;
            }
        }

        int themeOf(int story) {
            tallyOf(story);
            int theme = 0;
            for (int letter = 1; letter < LETTERS; letter++) {
                theme = tally[letter] > tally[theme] ? letter : theme;
            }
            return theme;
        }

        int unlikeLettersOf(int story) {
            tallyOf(story);
            int unlike = 0;
            for (int letter = 0; letter < LETTERS; letter++) {
                unlike += tally[letter] > 0 ? 1 : 0;
            }
            return unlike;
        }

        int hottestOf(int story) {
            int hottest = starts[story];
            for (int position = starts[story]; position < starts[story + 1]; position++) {
                hottest = heats[position] > heats[hottest] ? position : hottest;
            }
            return hottest - starts[story];
        }

        boolean readsFromBothEnds(int story) {
            int last = starts[story + 1] - 1;
            for (int place = 0; place < sizeOf(story) / 2; place++) {
                if (letters[starts[story] + place] != letters[last - place]) {
                    return false;
                }
            }
            return true;
        }

        int unlikeFamilies() {
            int unlike = 0;
            for (int story = 0; story < stories; story++) {
                unlike += isFirstOfFamily(story) ? 1 : 0;
            }
            return unlike;
        }

        boolean isFirstOfFamily(int story) {
            for (int earlier = 0; earlier < story; earlier++) {
                if (families[earlier] == families[story]) {
                    return false;
                }
            }
            return true;
        }

        int greatestGeneration() {
            int greatest = NONE;
            for (int story = 0; story < stories; story++) {
                greatest = Math.max(greatest, generations[story]);
            }
            return greatest;
        }

        int storiesWith(int letter) {
            int with = 0;
            for (int story = 0; story < stories; story++) {
                with += timesIn(story, letter) > 0 ? 1 : 0;
            }
            return with;
        }

        int storiesOfTheme(int letter) {
            int ofTheme = 0;
            for (int story = 0; story < stories; story++) {
                ofTheme += themeOf(story) == letter ? 1 : 0;
            }
            return ofTheme;
        }

        int heatOfLetter(int letter) {
            int sum = 0;
            for (int position = 0; position < words(); position++) {
                sum += letters[position] == letter ? heats[position] : 0;
            }
            return sum;
        }

        boolean isPair(int position, int letter, int next) {
            return letters[position] == letter && letters[position + 1] == next
                    && storyAt(position) == storyAt(position + 1);
        }
    }

    /** The states ahead of the latest changes, in a ring: the oldest one gives way. */
    private static final class History {
        final Shelf[] states = new Shelf[MOST_UNDOS];
        int oldest;
        int size;

        History() {
            for (int state = 0; state < MOST_UNDOS; state++) {
                states[state] = new Shelf();
            }
        }

        void record(Shelf shelf) {
            states[(oldest + size) % MOST_UNDOS].copyFrom(shelf);
            if (size < MOST_UNDOS) {
                size++;
            } else {
                oldest = (oldest + 1) % MOST_UNDOS;
            }
        }

        void takeBack(Shelf shelf) {
            size--;
            shelf.copyFrom(states[(oldest + size) % MOST_UNDOS]);
        }
    }

    /** The text from which stories are written. */
    private static final class Pad {
        static final int MOST = 60;
        static final int CODES_IN_A_NUMBER = 8;
        static final int FIRST_CODE = 33, LAST_CODE = 126;
        // what stood last, of which depends what can stand next
        static final int WORD_DUE = 0, BEHIND_LETTER = 1, BEHIND_DIGIT = 2, BEHIND_TWO_DIGITS = 3, CANNOT_STAND = 4;

        final char[] characters = new char[MOST];
        int length;

        /** Returns how many characters a number gives, 0 if it gives none or is not in order. */
        static int charactersIn(long number) {
            long rest = number;
            int found = 0;
            while (found < CODES_IN_A_NUMBER && rest != 0) {
                // 8 bits that are 0 below others are caught here, too
                if (!isWithin((int) (rest & 255), FIRST_CODE, LAST_CODE)) {
                    return 0;
                }
                rest >>>= 8;
                found++;
            }
            return found;
        }

        void add(long number, int added) {
            for (int left = added - 1; left >= 0; left--) {
                characters[length] = (char) ((number >>> (8 * left)) & 255);
                length++;
            }
        }

        int firstFault() {
            int place = WORD_DUE;
            for (int index = 0; index < length; index++) {
                place = placeBehind(place, characters[index]);
                if (place == CANNOT_STAND) {
                    return index;
                }
            }
            return place == WORD_DUE ? length : NONE;
        }

        static int placeBehind(int place, char character) {
            if (isWord(character)) {
                return BEHIND_LETTER;
            }
            if (place == WORD_DUE) {
                return CANNOT_STAND;
            }
            if (character == '/') {
                return WORD_DUE;
            }
            if (place == BEHIND_LETTER && isWithin(character, '1', '9')) {
                return BEHIND_DIGIT;
            }
            if (place == BEHIND_DIGIT && isWithin(character, '0', '9')) {
                return BEHIND_TWO_DIGITS;
            }
            return CANNOT_STAND;
        }

        static boolean isWord(char character) {
            return isWithin(character, 'a', 'z');
        }

        int storiesIn() {
            int stories = 1;
            for (int index = 0; index < length; index++) {
                stories += characters[index] == '/' ? 1 : 0;
            }
            return stories;
        }

        int wordsIn() {
            int words = 0;
            for (int index = 0; index < length; index++) {
                words += isWord(characters[index]) ? 1 : 0;
            }
            return words;
        }

        void writeTo(Shelf shelf) {
            shelf.addStory();
            for (int index = 0; index < length; index++) {
                char character = characters[index];
                if (character == '/') {
                    shelf.addStory();
                } else if (isWord(character)) {
                    shelf.addWord(character - 'a');
                } else {
                    shelf.addDigit(character - '0');
                }
            }
        }
    }
}
