/** Compares answers with those that are due, and types texts into the pad. */
final class Check {
    private static int calls = 0;
    private static int wrong = 0;
    private static int callsBefore = 0;
    private static String test = "";

    private Check() {
    }

    /** What is found wrong from now on is told with the name of the test. */
    static void begin(String name) {
        test = name;
        callsBefore = calls;
    }

    static void endOfTest() {
        if (calls == callsBefore) {
            wrong++;
            System.out.println(test + "nothing was tested");
        }
    }

    static void same(String what, String got, String want) {
        calls++;
        if (!got.equals(want)) {
            wrong++;
            System.out.println(test + what + ": " + got + ", due is " + want);
        }
    }

    static void due(String call, long got, long want) {
        calls++;
        if (got != want) {
            wrong++;
            System.out.println(test + call + " answered " + got + ", due is " + want);
        }
    }

    static boolean anyWrong() {
        return wrong > 0;
    }

    static void end() {
        System.out.println(calls + " answers, " + wrong + " of them not as due");
        if (calls == 0 || wrong > 0) {
            System.exit(1);
        }
    }

    static long coded(String text) {
        long number = 0;
        for (int index = 0; index < text.length(); index++) {
            number = number << 8 | text.charAt(index);
        }
        return number;
    }

    static void type(HeatedStories reactor, String text) {
        for (int start = 0; start < text.length(); start += 8) {
            String piece = text.substring(start, Math.min(start + 8, text.length()));
            if (reactor.put(coded(piece)) < 0) {
                wrong++;
                System.out.println(test + "the pad refuses " + piece + " of " + text);
            }
        }
    }

    /** The fault of a text in the pad of a new object. */
    static int faultOf(String text) {
        HeatedStories reactor = new HeatedStories();
        type(reactor, text);
        return reactor.fault();
    }

    static HeatedStories with(String text) {
        HeatedStories reactor = new HeatedStories();
        type(reactor, text);
        if (reactor.write() < 0) {
            wrong++;
            System.out.println(test + "cannot write " + text);
        }
        return reactor;
    }

    /** All stories as the pad would have them, but with any heat. */
    static String shown(HeatedStories reactor) {
        StringBuilder text = new StringBuilder();
        int stories = reactor.count(0);
        for (int story = 0; story < stories; story++) {
            text.append(story > 0 ? "/" : "");
            int words = reactor.story(story, 0);
            for (int word = 0; word < words; word++) {
                text.append((char) ('a' + reactor.word(story, word, 0)));
                int heat = reactor.word(story, word, 1);
                text.append(heat > 0 ? String.valueOf(heat) : "");
            }
        }
        return text.toString();
    }

    static void shows(String when, HeatedStories reactor, String want) {
        same(when + ": the stories are", shown(reactor), want);
    }
}
