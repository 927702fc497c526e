import java.io.IOException;
import java.nio.file.Files;
import java.nio.file.Path;
import java.util.BitSet;
import java.util.LinkedHashMap;
import java.util.LinkedHashSet;
import java.util.Map;
import java.util.Set;
import java.util.regex.Matcher;
import java.util.regex.Pattern;

/**
 * Tests that quote the document: each names a section, words that stand there once, and what is asked of
 * them. So a sentence's tests are found by its words, and a test's sentence by the test's name.
 */
final class Sentences {
    private static final Path DOCUMENT = Path.of("../shared/DOC.md");
    /** Words and numbers with which the document names an edge: each must be quoted by a test. */
    private static final Pattern EDGE = Pattern.compile("-?\\d+|\\b(?:least|fewest|most|latest|soonest|nearest"
        + "|first|last|alone|all|none|no|not|nothing|neither|never|nobody|only|empty|cut|too|alike|again|without"
        + "|above|below|stays?|once|either|ever|becomes?|lacks|same)\\b");
    private static final Pattern TESTED = Pattern.compile("What it is|Terms|Promise \\d+");

    private final Map<String, String> sections = new LinkedHashMap<>();
    private final Map<String, BitSet> quoted = new LinkedHashMap<>();
    private final Set<String> names = new LinkedHashSet<>();
    private String running = "";
    private int asked;
    private int wrong;

    Sentences() throws IOException {
        for (String part : Files.readString(DOCUMENT).split("(?m)^## ")) {
            int end = part.indexOf('\n');
            String title = end < 0 ? part : part.substring(0, end).replaceAll(":.*", "");
            if (end >= 0 && TESTED.matcher(title).matches()) {
                // What stands ahead of "==== I." is a list of what comes, and promises nothing.
                sections.put(title, part.substring(end).replaceAll("(?s)^.*==== I\\.", "").replaceAll("\\s+", " "));
                quoted.put(title, new BitSet());
            }
        }
    }

    void terms(String words, String what, Runnable body) {
        test("Terms", words, what, body);
    }

    void promise(int number, String words, String what, Runnable body) {
        test("Promise " + number, words, what, body);
    }

    void test(String section, String words, String what, Runnable body) {
        running = section + ", \"" + words + "\": " + what;
        quote(section, words);
        if (!names.add(running)) {
            fails("two tests have this name");
        }
        int before = asked;
        try {
            body.run();
        } catch (RuntimeException thrown) {
            fails("threw " + thrown);
        }
        if (asked == before) {
            fails("asks nothing");
        }
    }

    private void quote(String section, String words) {
        String text = sections.getOrDefault(section, "");
        int at = text.indexOf(words);
        if (at < 0 || text.indexOf(words, at + 1) >= 0) {
            fails("these words do not stand there once");
            return;
        }
        quoted.get(section).set(at, at + words.length());
    }

    void due(String call, long got, long want) {
        asked++;
        if (got != want) {
            fails(call + " answered " + got + ", due is " + want);
        }
    }

    /** A garden that is told to a new object. */
    void tells(String text, int want) {
        due("the garden " + text, Due.tell(new HowFarShesGot(), text), want);
    }

    private void fails(String how) {
        wrong++;
        System.out.println(running + ": " + how);
    }

    /** A line for each test: its section, its words and what it asks of them. */
    void list() {
        names.forEach(System.out::println);
    }

    /** Every edge that the document names must stand in words that a test quotes. */
    private void lookForUnquoted() {
        sections.forEach((title, text) -> {
            Matcher edge = EDGE.matcher(text);
            while (edge.find()) {
                if (quoted.get(title).nextClearBit(edge.start()) < edge.end()) {
                    running = title;
                    fails("no test quotes \"" + edge.group() + "\" in \""
                        + text.substring(Math.max(0, edge.start() - 40), Math.min(text.length(), edge.end() + 40)));
                }
            }
        });
    }

    void end() {
        lookForUnquoted();
        System.out.println(names.size() + " tests of sentences, " + asked + " answers asked, " + wrong + " wrong");
        if (wrong != 0 || sections.size() != 33) {
            System.exit(1);
        }
    }
}
