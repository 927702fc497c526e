import java.util.Random;

/**
 * Long runs of calls by lot, ordinary and wrong ones, on the program and on the plain model: every
 * answer must be the same, and no call may throw. Fixed seeds, so that a run can be run again.
 */
public final class PlainModelTest {
    private static final int RUNS = 600;
    private static final int CALLS = 512;
    private static final int[] ODD = {
        Integer.MIN_VALUE, -10, -2, -1, 36, 61, 100, 256, 1000, Integer.MAX_VALUE};
    private static final String SIGNS = "khvpws;059lgbrfnmea";
    private static final String[] QUESTIONS = {"square", "turnTo", "set", "seeker", "stand", "steps",
        "mayBe", "out", "shut", "firstGap", "search", "left", "looksAt", "bestSeeker", "together",
        "hold", "ways", "likely", "likeliest", "turning", "finds", "row", "judge", "behind", "lots", "image",
        "on", "count"};

    private final Random random;
    private final Both both = new Both();

    private PlainModelTest(long seed) {
        random = new Random(seed);
    }

    public static void main(String[] args) {
        for (int run = 0; run < RUNS; run++) {
            PlainModelTest test = new PlainModelTest(run);
            test.tellGarden(false);
            while (test.both.calls() < CALLS) {
                test.go();
            }
        }
        System.out.println(RUNS + " runs by lot as the plain model has them");
    }

    private int below(int n) {
        return random.nextInt(n);
    }

    /** Mostly a number below n, now and then one that is out of all range. */
    private int some(int n) {
        return below(12) == 0 ? ODD[below(ODD.length)] : below(n);
    }

    private int minute() {
        return below(3) == 0 ? some(1000) : some(30);
    }

    private void go() {
        int dice = below(100);
        if (dice < 6) {
            tellGarden(below(4) == 0);
        } else if (dice < 12) {
            tellRow();
        } else if (dice < 20) {
            call("turnTo", some(36), below(6) == 0 ? some(6) : below(6), 0);
        } else {
            ask(QUESTIONS[below(QUESTIONS.length)]);
        }
    }

    private void ask(String name) {
        switch (name) {
            case "set": {
                int what = some(3);
                call(name, what, what == 0 ? some(36) : some(11), 0);
                break;
            }
            case "square": call(name, some(36), some(3), 0); break;
            case "seeker": call(name, some(3), some(2), 0); break;
            case "stand": call(name, some(3), some(36), 0); break;
            case "mayBe": call(name, minute(), some(37) - 1, 0); break;
            case "out": call(name, some(2), 0, 0); break;
            case "search":
            case "bestSeeker": call(name, some(3), minute(), 0); break;
            case "left":
            case "looksAt": call(name, some(3), minute(), below(3) == 0 ? some(61) : some(8)); break;
            case "together":
            case "judge": call(name, minute(), 0, 0); break;
            case "behind": call(name, minute(), 0, 0); break;
            case "hold":
            case "finds": call(name, some(3), 0, 0); break;
            case "ways": call(name, some(21), some(36), 0); break;
            case "likely": call(name, some(21), some(36), some(2)); break;
            case "likeliest": call(name, some(21), 0, 0); break;
            case "turning": call(name, some(4), below(2) == 0 ? some(100) : some(20), 0); break;
            case "lots": call(name, some(21), random.nextInt(), 0); break;
            case "row": call(name, some(100), 0, 0); break;
            case "count": call(name, some(18), 0, 0); break;
            default: call(name, some(36), some(6), 0);
        }
    }

    private void tellRow() {
        if (below(2) == 0) {
            call("behind", minute(), 0, 0);
        }
        boolean traces = below(2) == 0;
        int many = below(7);
        int minute = 0;
        for (int i = 0; i < many; i++) {
            call("row", below(20) == 0 ? some(100) : below(36), 0, 0);
            minute = Math.min(99, minute + below(30));
            if (traces) {
                call("row", minute, 0, 0);
            }
        }
    }

    private void tellGarden(boolean spoilt) {
        StringBuilder text = new StringBuilder();
        int statements = 1 + below(14);
        for (int i = 0; i < statements; i++) {
            text.append(statement());
        }
        for (int i = 0; spoilt && i < 1 + below(2); i++) {
            char sign = below(3) == 0 ? (char) below(256) : SIGNS.charAt(below(SIGNS.length()));
            text.setCharAt(below(text.length()), sign);
        }
        if (spoilt && below(3) == 0) {
            text.setLength(below(text.length()));
        }
        for (int i = 0; i < text.length(); i++) {
            call("letter", text.charAt(i), 0, 0);
        }
        if (spoilt && below(5) == 0) {
            call("letter", some(256), 0, 0);
        }
        call("garden", 0, 0, 0);
    }

    private String statement() {
        String kinds = below(3) == 0 ? "hhhggrsb" : "lhgsbr";
        char kind = kinds.charAt(below(kinds.length()));
        int square = below(60) == 0 ? 36 + below(64) : below(36);
        switch (below(14)) {
            case 0: return "h" + two(square) + ";";
            case 1: return "p" + below(below(6) == 0 ? 10 : 4) + ";";
            case 2: return "w" + below(10) + ";";
            case 3: return "s" + "fnmea".charAt(below(5)) + two(square) + ";";
            case 4: return "v" + kind + two(square) + two(Math.min(99, square + below(6))) + ";";
            default: return "k" + kind + two(square) + ";";
        }
    }

    private static String two(int number) {
        return "" + number / 10 + number % 10;
    }

    private void call(String name, int a, int b, int c) {
        if (both.calls() < CALLS) {
            both.hear(name, a, b, c);
        }
    }
}
