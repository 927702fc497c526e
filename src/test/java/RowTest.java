/** Promises 24 to 28: traces, the row, looks that are judged, and lots. */
public final class RowTest {
    private static final Due DUE = new Due();

    public static void main(String[] args) {
        promise24FirstPair();
        promise24Homes();
        promise24Refusals();
        promise25Row();
        promise26Judge();
        promise27Behind();
        promise28Lots();
        DUE.end();
    }

    private static void due(String call, long got, long want) {
        DUE.due(call, got, want);
    }

    private static void first(String garden, int due, int... row) {
        due("first pair that can not be", Due.row(Due.corridor(garden), row).finds(0), due);
    }

    private static void promise24FirstPair() {
        first("", -9);
        first("", -9, 2, 4);
        first("", 0, 2, 3);
        first("", -9, 0, 0);
        first("", -9, 2, 4, 0, 8);
        first("", 1, 2, 4, 0, 7);
        first("", -9, 2, 4, 2, 4);
        first("", 1, 2, 4, 2, 3);
        first("", 2, 2, 9, 2, 99, 3, 99);
        first("", 0, 6, 99);
        first("p9;", 0, 2, 17);
        first("p9;", -9, 2, 18);
        first("ks00;w9;", 0, 1, 7);
        first("ks00;w9;", -9, 1, 8);
        first("ks02;w9;", -9, 2, 4, 3, 12);
        first("ks02;w9;", 1, 2, 4, 3, 11);
        first("kr02;", 1, 2, 4, 3, 99);
        first("kr02;", -9, 2, 4, 2, 99);
        first("kr02;", 0, 3, 99);
        first("kr00;", 0, 1, 99);
        first("kr00;", -9, 0, 99);
        first("", 5, 0, 0, 1, 2, 2, 4, 3, 6, 4, 8, 5, 9);
        first("", 1, 2, 50, 0, 10);
    }

    private static void homes(String garden, int many, int least, int... row) {
        HowFarShesGot x = Due.row(Due.corridor(garden), row);
        due("homes", x.finds(1), many);
        due("the least home", x.finds(2), least);
        due("the row stays", x.count(7), row.length);
    }

    private static void promise24Homes() {
        homes("", 6, 0);
        homes("", 5, 0, 2, 4);
        homes("", 2, 4, 5, 2);
        homes("", 1, 3, 3, 1);
        homes("", 0, -9, 6, 99);
        homes("", 0, -9, 2, 4, 4, 7);
        homes("", 3, 0, 0, 4, 5, 99);
        homes("kr02;", 3, 3, 5, 99);
        homes("kr02;", 6, 0, 2, 99);
        homes("kh03;", 2, 4, 5, 99);
        homes("ks03;w9;", 1, 4, 4, 1);
        homes("ks03;w9;", 2, 4, 4, 7);
        homes("ks03;w9;", 3, 3, 4, 8);
    }

    private static void promise24Refusals() {
        HowFarShesGot x = Due.row(Due.corridor(""), 0);
        due("what 3", x.finds(3), -2);
        due("what -1", x.finds(-1), -2);
        due("no twos, what 0", x.finds(0), -3);
        due("no twos, what 1", x.finds(1), -3);
        due("no twos, what 2", x.finds(2), -3);
        x.row(36);
        due("minute 36", x.finds(0), -9);
        Due.row(x, 36, 0);
        due("square 36, what 3", x.finds(3), -2);
        due("square 36", x.finds(1), -3);
        DUE.refusals(x, "finds", -2, 3);
        DUE.refusals(x, "finds", -3, 4);
    }

    private static void promise25Row() {
        HowFarShesGot x = new HowFarShesGot();
        due("row 0", x.row(0), 1);
        due("row 99", x.row(99), 2);
        due("row 100", x.row(100), -6);
        due("row -1", x.row(-1), -4);
        for (int i = 3; i <= 12; i++) {
            due("row " + i, x.row(35), i);
        }
        due("row 13", x.row(0), -6);
        due("row -1 when full", x.row(-1), -4);
        due("in the row", x.count(7), 12);
        DUE.refusals(x, "row", -4, 2);
        DUE.refusals(x, "row", -6, 2);
    }

    private static void promise26Judge() {
        due("no looks", Due.corridor("").judge(0), -9);
        due("she may be there", Due.row(Due.corridor(""), 0).judge(0), -9);
        due("not yet", Due.row(Due.corridor(""), 1).judge(1), 0);
        due("then", Due.row(Due.corridor(""), 1).judge(2), -9);
        due("not any more", Due.row(Due.corridor(""), 0, 0).judge(0), 1);
        due("come back", Due.row(Due.corridor(""), 0, 0, 0).judge(3), 2);
        due("behind a step", Due.row(Due.corridor(""), 0, 1, 2, 2).judge(3), 3);
        due("not a square", Due.row(Due.corridor(""), 0, 36).judge(9), 1);
        due("a hedge", Due.row(Due.corridor(""), 6).judge(999), 0);
        HowFarShesGot x = Due.row(Due.corridor(""), 0, 0);
        due("t -1", x.judge(-1), -4);
        due("t 1000", x.judge(1000), -6);
        due("the last minute", x.judge(999), -9);
        due("the row stays", x.count(7), 2);
        due("asked again", x.judge(999), -9);
        DUE.refusals(x, "judge", -4, 1);
        DUE.refusals(x, "judge", -6, 1);
    }

    private static void promise27Behind() {
        due("no looks", Due.corridor("").behind(5), 3);
        HowFarShesGot x = Due.row(Due.corridor(""), 0, 0);
        due("t -1", x.behind(-1), -4);
        due("t 1000", x.behind(1000), -6);
        due("the row stays", x.count(7), 2);
        due("behind both", x.behind(3), 2);
        due("the row has none", x.count(7), 0);
        due("behind none", x.behind(3), 2);
        due("behind a look at no square", Due.row(Due.corridor(""), 36, 99).behind(2), 3);
        due("found", Due.row(Due.corridor(""), 0).behind(1), 0);
        due("found for good", Due.row(Due.corridor(""), 0, 0, 0).behind(0), 0);
        due("all gone", Due.row(Due.corridor("p9;"), 0, 1, 2, 3, 4, 5).behind(45), 0);
        DUE.refusals(x, "behind", -4, 1);
        DUE.refusals(x, "behind", -6, 1);
    }

    private static void promise28Lots() {
        HowFarShesGot x = Due.corridor("kr05;");
        due("n 0", x.lots(0, 0), -4);
        due("n 21", x.lots(21, 0), -6);
        DUE.refusals(x, "lots", -4, 1);
        DUE.refusals(x, "lots", -6, 1);
        due("home on a road", Due.garden("kr14;").lots(20, 1), 20);
        due("no road", new HowFarShesGot().lots(20, 1), 0);
        int[] seeds = {0, 1, 7, -1, 1234567, Integer.MIN_VALUE, Integer.MAX_VALUE};
        for (int seed : seeds) {
            for (int n = 1; n <= 20; n++) {
                due("lots of " + n + " with " + seed, x.lots(n, seed), outs(n, seed));
            }
        }
    }

    /** Walks in the corridor with a road at 5, reckoned in longs: up and down she stays. */
    private static int outs(int n, int seed) {
        long z = seed & 0xffffffffL;
        int outs = 0;
        for (int walk = 0; walk < n; walk++) {
            int at = 0;
            for (int step = 0; step < 30; step++) {
                z = (z * 1664525L + 1013904223L) & 0xffffffffL;
                long draw = (z & 0x7fffffffL) / 256 % 4;
                if (at < 5 && draw == 2) {
                    at++;
                } else if (at < 5 && at > 0 && draw == 1) {
                    at--;
                }
            }
            outs += at == 5 ? 1 : 0;
        }
        return outs;
    }
}
