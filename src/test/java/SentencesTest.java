import java.io.IOException;
import java.lang.reflect.Method;
import java.nio.file.Files;
import java.nio.file.Path;
import java.util.ArrayList;
import java.util.LinkedHashMap;
import java.util.List;
import java.util.Map;
import java.util.regex.Matcher;
import java.util.regex.Pattern;

/** Each test of a boundary case quotes the document, and no sentence of it that names a boundary case is left over. */
public final class SentencesTest {
    private static final Class<?>[] TESTS = {BoundariesOfTermsTest.class, BoundariesOfChangesTest.class,
        BoundariesOfAnswersTest.class, BoundariesOfKeepingTest.class};
    private static final Pattern BOUNDARY = Pattern.compile("NO_SUCH|BAD_VALUE|BAD_TEXT|TOO_MANY|NOT_POSSIBLE|NONE"
        + "|\\d+ to \\d+|\\bor\\b|\\bat most\\b|\\bup to\\b|\\bmore than\\b|\\bfewer\\b|\\bempt|\\bof several\\b|\\boldest\\b"
        + "|\\bis a change\\b|\\bfirst value\\b|\\bReturns how\\b|\\bnumbered from\\b|\\bgreater one\\b|\\b0 the \\w+, 1 the\\b");

    public static void main(String[] args) throws IOException {
        Map<String, String> sections = sections();
        List<Says> quotes = quotes();
        for (Says says : quotes) {
            for (String words : says.words()) {
                String section = sections.getOrDefault(says.in(), "");
                Check.due(says.in() + " says \"" + words + "\"", section.contains(words) ? 1 : 0, 1);
            }
        }
        for (String name : sections.keySet()) {
            String left = leftOver(name, sections.get(name), quotes);
            Matcher matcher = BOUNDARY.matcher(left);
            Check.due(name + " has no boundary case without a test, but: " + left, matcher.find() ? 1 : 0, 0);
        }
        Check.end();
    }

    private static List<Says> quotes() {
        List<Says> quotes = new ArrayList<>();
        for (Class<?> tests : TESTS) {
            for (Method test : Boundary.testsOf(tests)) {
                quotes.add(test.getAnnotation(Says.class));
            }
        }
        return quotes;
    }

    /** The parts of the document whose sentences bind: each on one line. */
    private static Map<String, String> sections() throws IOException {
        Map<String, String> sections = new LinkedHashMap<>();
        String text = Files.readString(Path.of("../shared/DOC.md"));
        for (String part : text.split("\n## ")) {
            String heading = part.substring(0, Math.max(0, part.indexOf('\n')));
            String name = heading.replaceAll(":.*", "");
            if (name.matches("Promise \\d+|Terms|What it is")) {
                sections.put(name, part.substring(heading.length()).replaceAll("\\s+", " "));
            }
        }
        Check.due("sections", sections.size(), 26);
        return sections;
    }

    private static String leftOver(String name, String section, List<Says> quotes) {
        boolean[] quoted = new boolean[section.length()];
        for (Says says : quotes) {
            for (String words : says.in().equals(name) ? says.words() : new String[0]) {
                mark(quoted, section, words);
            }
        }
        StringBuilder left = new StringBuilder();
        for (int index = 0; index < quoted.length; index++) {
            left.append(quoted[index] ? '_' : section.charAt(index));
        }
        return left.toString().replaceAll("_+", "_");
    }

    private static void mark(boolean[] quoted, String section, String words) {
        for (int start = section.indexOf(words); start >= 0; start = section.indexOf(words, start + 1)) {
            for (int index = start; index < start + words.length(); index++) {
                quoted[index] = true;
            }
        }
    }
}
