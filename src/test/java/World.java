import java.util.function.Supplier;

/** States in which calls are tried. Each call of get gives a new object that stands the same. */
enum World implements Supplier<HeatedStories> {
    /** Nothing at all. */
    NEW,
    /** Three stories, one change, one slot, an empty pad. */
    YOUNG,
    /** As many changes as can be undone, all states unlike each other, both slots, a pad with a fault. */
    BUSY,
    /** 12 stories, 150 words, 60 characters in the pad. */
    FULL;

    static final World[] ALL = values();
    static final World[] WITH_STORIES = {YOUNG, BUSY, FULL};

    @Override
    public HeatedStories get() {
        switch (this) {
            case YOUNG: return young();
            case BUSY: return busy();
            case FULL: return full();
            default: return new HeatedStories();
        }
    }

    /** The same state, but with another text in the pad. */
    Supplier<HeatedStories> with(String text) {
        return () -> {
            HeatedStories x = get();
            x.wipe();
            Check.type(x, text);
            return x;
        };
    }

    private static HeatedStories young() {
        HeatedStories x = Check.with("ab2a/ba/cc9");
        x.save(1);
        return x;
    }

    private static HeatedStories busy() {
        HeatedStories x = Check.with("ab18c/aca/b7a");
        x.save(0);
        x.set(HeatedStories.LIMIT, 30);
        x.heat(0, 1, 12);
        x.fuse(0, 2);
        x.save(1);
        x.set(HeatedStories.SPARK, 1);
        x.pass(1);
        x.set(HeatedStories.COOL, 5);
        x.read(1, 2);
        Check.type(x, "xy5/");
        return x;
    }

    private static HeatedStories full() {
        HeatedStories x = fullHouse();
        Check.type(x, sixty());
        return x;
    }

    /** 12 stories and 150 words, nothing in the pad. */
    static HeatedStories fullHouse() {
        HeatedStories x = Check.with("abcdefghijklm/bbcdefghijklm/cbcdefghijklm/dbcdefghijklm");
        Check.type(x, "aabcdefghijkl/babcdefghijkl/cabcdefghijkl/dabcdefghijkl");
        x.write();
        Check.type(x, "abcdefghijk/bbcdefghijk/cbcdefghijkl/zbcdefghijkz1");
        x.write();
        return x;
    }

    /** A story of 150 words that are all a, without heat. */
    static HeatedStories longest() {
        HeatedStories x = Check.with("a".repeat(60));
        Check.type(x, "a".repeat(60));
        x.write();
        Check.type(x, "a".repeat(30));
        x.write();
        x.set(HeatedStories.SPARK, 0);
        x.fuse(0, 1);
        x.fuse(0, 1);
        return x;
    }

    static HeatedStories twelve() {
        return Check.with("a/b/c/d/e/f/g/h/i/j/k/l");
    }

    static HeatedStories eleven() {
        return Check.with("a/b/c/d/e/f/g/h/i/j/k");
    }

    static String sixty() {
        return "abcdefghij".repeat(6);
    }
}
