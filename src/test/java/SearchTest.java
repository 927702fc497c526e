/** Promises 14 to 18: searches by one seeker, by the best kind and by all. */
public final class SearchTest {
    private static final Due DUE = new Due();
    /** At minute 9 she may be on 14 and the four beside it, for nine looks. */
    private static final String CROSS = "p9;";
    private static final String CROSS_IN_HEDGES = "p4;vh0007;vh0912;kh19;kh21;vh2435;";

    public static void main(String[] args) {
        promise14Search();
        promise14Refusals();
        promise15Left();
        promise16LooksAt();
        promise16Kinds();
        promise17BestSeeker();
        promise18Together();
        DUE.end();
    }

    private static void due(String call, long got, long want) {
        DUE.due(call, got, want);
    }

    private static void promise14Search() {
        HowFarShesGot x = Due.corridor("sf00;sn05;");
        due("she is at home", x.search(0, 0), 1);
        due("two looks in time", x.search(0, 2), 2);
        // FIRST drives her before him: 0, then 0 and 1, 1 and 2, 2 and 3, 3 and 4, 4 and 5.
        due("driven to the end", x.search(0, 3), 11);
        due("two squares ahead of a step", x.search(0, 4), 10);
        // NEAR from 5 looks at 1 twice, then at 0.
        due("driven home", x.search(1, 3), 3);
        due("he stands where he stood", x.seeker(1, 1), 5);
        due("driven home again", x.search(1, 3), 3);
        due("last minute", x.search(0, 999), 11);
        x.set(1, 9);
        due("six looks before nine minutes", x.search(0, 54), 6);
        due("a step comes in between", x.search(0, 49), 7);
        x.set(1, 1);
        due("never: she comes back behind him", x.search(0, 1), -9);
        due("behind 200 looks", Due.garden("p7;h09;sn01;").search(0, 15), 200);
        due("not behind 200 looks", Due.garden("p7;h09;sn09;").search(0, 21), -9);
        due("a road is not left", Due.corridor("kr01;sf00;").search(0, 3), 2);
        due("a hedge is not come onto", Due.corridor("kh02;kh01;kl02;sf00;").search(0, 99), 1);
        due("home on a road", Due.garden("kr14;sf00;").search(0, 999), 1);
    }

    private static void promise14Refusals() {
        HowFarShesGot x = Due.corridor("sf00;");
        due("seeker 1, t -1", x.search(1, -1), -1);
        due("seeker -1", x.search(-1, 0), -1);
        due("t -1", x.search(0, -1), -4);
        due("t 1000", x.search(0, 1000), -6);
        due("best seeker 1, t -1", x.bestSeeker(1, -1), -1);
        due("best, t -1", x.bestSeeker(0, -1), -4);
        due("best, t 1000", x.bestSeeker(0, 1000), -6);
        due("left seeker 1", x.left(1, -1, -1), -1);
        due("left t -1, n 61", x.left(0, -1, 61), -4);
        due("left t 1000, n -1", x.left(0, 1000, -1), -4);
        due("left t 1000", x.left(0, 1000, 60), -6);
        due("left n 61", x.left(0, 999, 61), -6);
        due("looksAt seeker 1", x.looksAt(1, -1, -1), -1);
        due("looksAt t -1, i 61", x.looksAt(0, -1, 61), -4);
        due("looksAt t 1000, i -1", x.looksAt(0, 1000, -1), -4);
        due("looksAt t 1000", x.looksAt(0, 1000, 60), -6);
        due("looksAt i 61", x.looksAt(0, 999, 61), -6);
        due("together t -1", x.together(-1), -4);
        due("together t 1000", x.together(1000), -6);
        due("together without seekers", new HowFarShesGot().together(-1), -3);
        DUE.refusals(x, "searches", -1, 5);
        DUE.refusals(x, "searches", -4, 7);
        DUE.refusals(x, "searches", -6, 7);
    }

    private static void promise15Left() {
        HowFarShesGot x = Due.corridor("sf00;");
        due("behind none", x.left(0, 3, 0), 2);
        due("behind 1", x.left(0, 3, 1), 3);
        due("behind 2", x.left(0, 3, 2), 2);
        due("behind 10", x.left(0, 3, 10), 1);
        due("behind 11", x.left(0, 3, 11), 0);
        due("behind 60", x.left(0, 3, 60), 0);
        due("all at 999", x.left(0, 999, 0), 6);
        due("pace divides 1000", x.left(0, 999, 1), 6);
        due("pace does not divide 999", x.left(0, 998, 1), 5);
    }

    private static void promise16LooksAt() {
        HowFarShesGot x = Due.corridor("sf00;");
        int[] looks = {0, 0, 1, 1, 2, 2, 3, 3, 4, 4, 5, -9};
        for (int i = 0; i < looks.length; i++) {
            due("look " + i, x.looksAt(0, 3, i), looks[i]);
        }
        due("look 60", x.looksAt(0, 3, 60), -9);
    }

    private static void promise16Kinds() {
        looks("f in a cross", CROSS + "sf00;", 9, 8, 13, 14, 15, 20, -9);
        looks("n in a cross", CROSS + "sn35;", 9, 15, 14, 8, 13, 20, -9);
        looks("m in a cross", CROSS + "sm35;", 9, 14, 8, 13, 15, 20, -9);
        looks("e in a cross", CROSS + "se35;", 9, 8, 13, 15, 14, 20, -9);
        looks("a in a cross", CROSS + "kr30;sa05;", 9, 13, 20, 14, 8, 15, -9);
        looks("a without roads", CROSS + "sa35;", 9, 15, 14, 8, 13, 20, -9);
        looks("a, two roads", CROSS + "kr35;kr02;sa30;", 9, 8, 14, 13, 15, 20, -9);
        String slow = Due.CORRIDOR + "p9;";
        looks("n between", slow + "sn01;", 18, 1, 0, 2, -9);
        looks("n behind the end", slow + "sn05;", 18, 2, 1, 0, -9);
        looks("m in a row", slow + "sm05;", 18, 1, 0, 2, -9);
        looks("e in a row", slow + "se05;", 18, 0, 1, 2, -9);
        looks("a in a row", slow + "kr35;sa00;", 18, 2, 1, 0, -9);
        looks("rows and columns together", "p9;h14;kh13;kh20;kh15;sn18;", 9, 14, 8, -9);
    }

    private static void looks(String name, String garden, int t, int... squares) {
        HowFarShesGot x = Due.garden(garden);
        for (int i = 0; i < squares.length; i++) {
            due(name + ", look " + i, x.looksAt(0, t, i), squares[i]);
        }
    }

    private static void promise17BestSeeker() {
        HowFarShesGot x = Due.corridor("sf05;sf00;");
        due("near from 5", x.bestSeeker(0, 3), 1);
        due("all as soon", x.bestSeeker(1, 0), 0);
        due("none", Due.garden("p1;sf00;").bestSeeker(0, 999), -9);
        due("he is as he was", x.seeker(0, 0), 0);
        due("he stands as he stood", x.seeker(0, 1), 5);
        for (int t = 0; t < 40; t++) {
            HowFarShesGot cross = Due.garden(CROSS_IN_HEDGES + "sf35;");
            due("best at " + t, cross.bestSeeker(0, t), bestByLooks(t));
        }
    }

    /** The first kind with the fewest looks, each asked by a seeker of that kind at the same square. */
    private static int bestByLooks(int t) {
        int best = -9;
        int fewest = 201;
        for (int kind = 0; kind < 5; kind++) {
            int looks = Due.garden(CROSS_IN_HEDGES + "s" + "fnmea".charAt(kind) + "35;").search(0, t);
            if (looks >= 0 && looks < fewest) {
                fewest = looks;
                best = kind;
            }
        }
        return best;
    }

    private static void promise18Together() {
        HowFarShesGot x = Due.corridor("sf00;");
        due("one alone", x.together(3), 11);
        Due.tell(x, "sf05;");
        due("two alike", x.together(3), 11);
        HowFarShesGot y = Due.corridor("sf00;sn05;");
        due("at home", y.together(0), 1);
        due("in turn", y.together(2), 2);
        due("they drive her to and fro", y.together(3), -9);
        due("he stands where he stood", y.seeker(1, 1), 5);
        // NEAR from 5 looks at 1; she steps to 0 and 1; FIRST looks at 0, NEAR at 1.
        due("the first looks first", Due.corridor("sn05;sf00;").together(3), 3);
        due("behind 200 looks of all", Due.garden("p9;h03;sm31;sf16;sn32;").together(31), 200);
        due("not behind 200 looks of all", Due.garden("p7;h09;sf16;se28;sf24;").together(21), -9);
        // Slow: f 0, n 2, n 1, f 3: all four within nine minutes.
        due("three in turn", Due.corridor("p9;sf00;sn05;sn00;").together(27), 4);
    }
}
