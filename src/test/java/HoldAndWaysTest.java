/** Promises 19 to 23: squares that are held, ways, how likely she is where, and turning. */
public final class HoldAndWaysTest {
    private static final Due DUE = new Due();
    private static final long LONG = 4000000000000000000L;

    public static void main(String[] args) {
        promise19Hold();
        promise19Refusals();
        promise20Ways();
        promise21Likely();
        promise22Likeliest();
        promise23Turning();
        DUE.end();
    }

    private static void due(String call, long got, long want) {
        DUE.due(call, got, want);
    }

    private static void promise19Hold() {
        HowFarShesGot x = Due.corridor("kr05;");
        due("out without a row", x.hold(0), 1);
        due("ever without a row", x.hold(1), 6);
        due("one more without a row", x.hold(2), 1);
        Due.row(x, 3);
        due("held at 3: out", x.hold(0), 0);
        due("held at 3: ever", x.hold(1), 3);
        due("held at 3: one more", x.hold(2), 1);
        due("the row stays", x.count(7), 1);
        due("no hedge comes of it", x.count(4), 30);
        HowFarShesGot home = Due.row(Due.corridor("kr05;"), 0, 0);
        due("home is never held: out", home.hold(0), 1);
        due("home is never held: ever", home.hold(1), 6);
        due("home is never held: one more", home.hold(2), 1);
        HowFarShesGot road = Due.corridor("kr03;");
        due("a road is not left", road.hold(1), 4);
        due("home on a road: out", Due.garden("kr14;").hold(0), 1);
        due("home on a road: ever", Due.garden("kr14;").hold(1), 1);
        due("nothing to hold: the least", Due.garden("kr14;").hold(2), 0);
        due("home alone, and the least", Due.garden("h00;kh01;kh06;").hold(2), 0);
        HowFarShesGot alone = Due.row(Due.garden("h00;"), 1, 6);
        due("home alone by held ones, and the least", alone.hold(2), 0);
        due("home alone: ever", alone.hold(1), 1);
        due("home is the least, but leaves her more", Due.corridor("").hold(2), 1);
        due("home alone, not the least", Due.row(Due.garden("h35;"), 29, 34).hold(2), 0);
        due("a held one may be one more", Due.row(Due.garden("h01;"), 0, 2, 7).hold(2), 0);
        due("of several the least", new HowFarShesGot().hold(2), 0);
        due("a middle that keeps most", Due.garden("h35;vh0011;vh1829;kl21;").hold(2), 34);
        HowFarShesGot door = Due.garden("h30;vh1823;kl20;");
        due("the square before the door keeps one fewer than the door", door.hold(2), 26);
        Due.row(door, 20);
        due("the door held", door.hold(1), 12);
        HowFarShesGot full = Due.row(new HowFarShesGot(), 0, 1, 2, 3, 4, 5, 6, 7, 8, 9, 10, 11);
        due("twelve held", full.hold(1), 24);
    }

    private static void promise19Refusals() {
        HowFarShesGot x = Due.row(new HowFarShesGot(), 35, 36);
        due("what 3", x.hold(3), -2);
        due("what -1", x.hold(-1), -2);
        due("36, what 0", x.hold(0), -3);
        due("36, what 1", x.hold(1), -3);
        due("36, what 2", x.hold(2), -3);
        DUE.refusals(x, "hold", -2, 2);
        DUE.refusals(x, "hold", -3, 3);
        due("the row stays", x.count(7), 2);
        due("35 is fine", Due.row(new HowFarShesGot(), 35).hold(1), 35);
    }

    private static void promise20Ways() {
        HowFarShesGot x = Due.corridor("w9;ks00;kb01;kg02;");
        ways(x, 0, 1, 0, 0, 0, 0, 0, 0);
        ways(x, 1, 1, 1, 0, 0, 0, 0, 0);
        ways(x, 2, 2, 2, 1, 0, 0, 0, 0);
        ways(x, 3, 4, 5, 3, 1, 0, 0, 0);
        HowFarShesGot road = Due.corridor("kr02;");
        ways(road, 2, 2, 2, 1, 0, 0, 0, 0);
        ways(road, 3, 4, 4, 3, 0, 0, 0, 0);
        ways(road, 4, 8, 8, 7, 0, 0, 0, 0);
        HowFarShesGot home = Due.garden("kr14;");
        due("home on a road", home.ways(20, 14), 1);
        due("home on a road, beside", home.ways(20, 15), 0);
        due("two squares", Due.corridor("vh0205;").ways(20, 1), 1L << 19);
        due("the last square", Due.garden("h35;").ways(2, 35), 3);
        due("20 steps", new HowFarShesGot().ways(20, 14), 1392470618509L);
        due("n -1, square 36", x.ways(-1, 36), LONG + 4);
        due("n 21, square 36", x.ways(21, 36), LONG + 6);
        due("square 36", x.ways(20, 36), LONG + 1);
        due("square -1", x.ways(0, -1), LONG + 1);
        DUE.refusals(x, "ways", -4, 1);
        DUE.refusals(x, "ways", -6, 1);
        DUE.refusals(x, "ways", -1, 2);
    }

    private static void ways(HowFarShesGot x, int n, long... due) {
        for (int square = 0; square < due.length; square++) {
            due("ways of " + n + " to " + square, x.ways(n, square), due[square]);
        }
    }

    private static void promise21Likely() {
        HowFarShesGot x = Due.corridor("");
        due("above", x.likely(2, 0, 0), 2);
        due("below", x.likely(2, 0, 1), 5);
        due("above 2", x.likely(2, 2, 0), 1);
        due("below 2", x.likely(2, 2, 1), 5);
        due("never above", x.likely(2, 35, 0), 0);
        due("never below", x.likely(2, 35, 1), 1);
        due("surely above", x.likely(0, 0, 0), 1);
        due("surely below", x.likely(0, 0, 1), 1);
        HowFarShesGot two = Due.corridor("vh0205;");
        due("the least numbers above", two.likely(20, 1, 0), 1);
        due("the least numbers below", two.likely(20, 1, 1), 2);
        due("n -1", x.likely(-1, 36, 2), LONG + 4);
        due("n 21", x.likely(21, 36, 2), LONG + 6);
        due("square 36", x.likely(20, 36, 2), LONG + 1);
        due("square -1", x.likely(20, -1, 2), LONG + 1);
        due("part 2", x.likely(20, 35, 2), LONG + 2);
        due("part -1", x.likely(20, 35, -1), LONG + 2);
        DUE.refusals(x, "likely", -4, 1);
        DUE.refusals(x, "likely", -6, 1);
        DUE.refusals(x, "likely", -1, 2);
        DUE.refusals(x, "likely", -2, 2);
    }

    private static void promise22Likeliest() {
        HowFarShesGot x = Due.corridor("");
        due("none", x.likeliest(0), 0);
        due("of several the least", x.likeliest(2), 0);
        due("three", x.likeliest(3), 1);
        due("home in the middle", Due.corridor("h03;").likeliest(1), 2);
        due("n -1", x.likeliest(-1), -4);
        due("n 21", x.likeliest(21), -6);
        due("n 20", Due.garden("kr35;h35;").likeliest(20), 35);
        DUE.refusals(x, "likeliest", -4, 1);
        DUE.refusals(x, "likeliest", -6, 1);
    }

    private static void promise23Turning() {
        HowFarShesGot x = Due.corridor("");
        due("right 0", x.turning(3, 0), 0);
        due("right 5", x.turning(3, 5), 5);
        due("right 7: turned twice", x.turning(3, 7), 5);
        due("right 8: back", x.turning(3, 8), 4);
        due("up 3: turned thrice", x.turning(0, 3), 0);
        due("up 4", x.turning(0, 4), 1);
        due("left 2", x.turning(1, 2), 0);
        due("left 3", x.turning(1, 3), 1);
        due("down 1", x.turning(2, 1), 0);
        due("down 2", x.turning(2, 2), 1);
        due("to and fro: 14 a round", x.turning(3, 98), 0);
        due("to and fro: 99", x.turning(3, 99), 1);
        Due.tell(x, "w9;ks01;kb02;kg03;");
        due("each as lawn", x.turning(3, 4), 4);
        due("a road is not left", Due.corridor("kr03;").turning(3, 99), 3);
        due("home on a road", Due.garden("kr14;").turning(0, 99), 14);
        HowFarShesGot lawn = new HowFarShesGot();
        due("round by the edge", lawn.turning(0, 2), 2);
        due("faces left there", lawn.turning(0, 3), 2);
        due("goes left", lawn.turning(0, 4), 1);
        due("down the edge", lawn.turning(0, 7), 6);
        due("facing 4, n -1", x.turning(4, -1), -2);
        due("facing -1", x.turning(-1, 100), -2);
        due("n -1", x.turning(3, -1), -4);
        due("n 100", x.turning(0, 100), -6);
        DUE.refusals(x, "turning", -2, 2);
        DUE.refusals(x, "turning", -4, 1);
        DUE.refusals(x, "turning", -6, 1);
    }
}
