import java.util.LinkedHashMap;
import java.util.List;
import java.util.Map;

/**
 * Every call with every choice of its arguments from the edges of their ranges, in three states, on the
 * program and on the plain model: every answer must be the same, and what is there behind it.
 */
public final class EdgeGridTest {
    private static final int LEAST = Integer.MIN_VALUE;
    private static final int GREATEST = Integer.MAX_VALUE;
    private static final int[] SQUARE = {LEAST, -2, -1, 0, 1, 14, 21, 34, 35, 36, GREATEST};
    private static final int[] MINUTE = {LEAST, -1, 0, 1, 8, 500, 998, 999, 1000, GREATEST};
    private static final int[] LOOKS = {LEAST, -1, 0, 1, 59, 60, 61, GREATEST};
    private static final int[] SEEKER = {LEAST, -1, 0, 1, 2, 3, GREATEST};
    private static final int[] WHAT = {LEAST, -1, 0, 1, 2, 3, GREATEST};
    private static final int[] KIND = {LEAST, -1, 0, 1, 2, 3, 4, 5, 6, GREATEST};
    private static final int[] STEPS = {LEAST, -1, 0, 1, 19, 20, 21, GREATEST};
    private static final int[] SMALL = {LEAST, -1, 0, 1, 8, 9, 10, 14, 21, 35, 36, GREATEST};
    private static final int[] LETTER = {LEAST, -1, 0, 1, 'k', 254, 255, 256, GREATEST};
    private static final int[] NUMBER = {LEAST, -1, 0, 1, 35, 36, 98, 99, 100, GREATEST};
    private static final int[] FACING = {LEAST, -1, 0, 1, 2, 3, 4, GREATEST};
    private static final int[] SEED = {LEAST, -1, 0, 1, GREATEST};
    private static final int[] COUNT = {
        LEAST, -1, 0, 1, 2, 3, 4, 5, 6, 7, 8, 9, 10, 11, 12, 13, 14, 15, 16, 17, GREATEST};
    private static final int[] NOTHING = {0};
    private static final String GARDEN = "vh0005;kg07;ks08;kb09;kr35;h20;p3;w7;sn01;";
    private static final String MORE = "h21;p4;w2;sm12;kg10;kr11;";
    private static final int LAST_CALL = 480;

    private static final Map<String, List<int[]>> ARGUMENTS = new LinkedHashMap<>();

    static {
        calls(NOTHING, NOTHING, NOTHING, "garden", "shut", "firstGap", "image", "on");
        calls(LETTER, NOTHING, NOTHING, "letter");
        calls(SQUARE, NOTHING, NOTHING, "steps");
        calls(WHAT, NOTHING, NOTHING, "out", "hold", "finds");
        calls(MINUTE, NOTHING, NOTHING, "together", "judge", "behind");
        calls(STEPS, NOTHING, NOTHING, "likeliest");
        calls(NUMBER, NOTHING, NOTHING, "row");
        calls(COUNT, NOTHING, NOTHING, "count");
        calls(SQUARE, WHAT, NOTHING, "square");
        calls(SQUARE, KIND, NOTHING, "turnTo");
        calls(WHAT, SMALL, NOTHING, "set");
        calls(SEEKER, WHAT, NOTHING, "seeker");
        calls(SEEKER, SQUARE, NOTHING, "stand");
        calls(MINUTE, SQUARE, NOTHING, "mayBe");
        calls(SEEKER, MINUTE, NOTHING, "search", "bestSeeker");
        calls(SEEKER, MINUTE, LOOKS, "left", "looksAt");
        calls(STEPS, SQUARE, NOTHING, "ways");
        calls(STEPS, SQUARE, WHAT, "likely");
        calls(FACING, new int[] {LEAST, -1, 0, 1, 98, 99, 100, GREATEST}, NOTHING, "turning");
        calls(STEPS, SEED, NOTHING, "lots");
    }

    private final Both both = new Both();

    private EdgeGridTest(int state) {
        if (state > 0) {
            tell(GARDEN);
            both.hear("image", 0, 0, 0);
            tell(state > 1 ? MORE + "sa34;" : MORE);
            int[] row = {8, 3, 20, 9, 9, 12, 7, 20, 14, 33, 22, 34};
            for (int i = 0; i < (state > 1 ? row.length : 4); i++) {
                both.hear("row", row[i], 0, 0);
            }
            both.hearLetters(state > 1 ? "kb06;h21;" + "p1;".repeat(29) : "kb06;");
        }
    }

    public static void main(String[] args) {
        int asked = 0;
        for (int state = 0; state < 3; state++) {
            for (Map.Entry<String, List<int[]>> call : ARGUMENTS.entrySet()) {
                asked += grid(state, call.getKey(), call.getValue());
            }
        }
        System.out.println(asked + " calls at the edges as the plain model has them");
    }

    private static void calls(int[] a, int[] b, int[] c, String... names) {
        for (String name : names) {
            ARGUMENTS.put(name, List.of(a, b, c));
        }
    }

    private static int grid(int state, String name, List<int[]> arguments) {
        EdgeGridTest test = new EdgeGridTest(state);
        int asked = 0;
        for (int a : arguments.get(0)) {
            for (int b : arguments.get(1)) {
                for (int c : arguments.get(2)) {
                    asked++;
                    test.both.hear(name, a, b, c);
                    if (test.changedBy(name) || test.both.calls() > LAST_CALL - 60) {
                        test.lookAtAll();
                        test = new EdgeGridTest(state);
                    }
                }
            }
        }
        test.lookAtAll();
        return asked;
    }

    private boolean changedBy(String name) {
        return List.of("letter", "garden", "turnTo", "set", "stand", "row", "behind", "image", "on").contains(name);
    }

    private void tell(String text) {
        both.hearLetters(text);
        both.hear("garden", 0, 0, 0);
    }

    private void lookAtAll() {
        for (int what = 0; what <= 16; what++) {
            both.hear("count", what, 0, 0);
        }
        for (int square = 0; square < 36; square++) {
            both.hear("square", square, 0, 0);
        }
        for (int seeker = 0; seeker < 3; seeker++) {
            both.hear("seeker", seeker, 1, 0);
        }
    }
}
