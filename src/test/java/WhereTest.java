/** Promises 9 to 13: steps, where she may be, out, shut and the first gap. */
public final class WhereTest {
    private static final Due DUE = new Due();

    public static void main(String[] args) {
        promise9Steps();
        promise10MayBe();
        promise11Out();
        promise12Shut();
        promise13FirstGap();
        DUE.end();
    }

    private static void due(String call, long got, long want) {
        DUE.due(call, got, want);
    }

    private static void promise9Steps() {
        HowFarShesGot lawn = new HowFarShesGot();
        due("home", lawn.steps(14), 0);
        due("beside", lawn.steps(8), 1);
        due("corner", lawn.steps(35), 6);
        due("a row's end is not beside the next row's begin", Due.garden("h05;").steps(6), 6);
        HowFarShesGot x = Due.corridor("ks01;kb02;kr04;");
        due("onto the sun", x.steps(1), 1);
        due("off the sun", x.steps(2), 3);
        due("off the bed", x.steps(3), 5);
        due("onto the road", x.steps(4), 6);
        due("off the road", x.steps(5), -9);
        due("hedge", x.steps(6), -9);
        x.set(2, 9);
        due("off the sun at 9", x.steps(2), 5);
        x.set(2, 0);
        due("off the sun at 0", x.steps(2), 2);
        x.set(1, 9);
        due("pace does not count", x.steps(2), 2);
        due("round the sun", Due.garden("h00;w9;ks01;").steps(2), 4);
        due("through the sun", Due.garden("h00;w3;ks01;").steps(2), 3);
        due("a slow way that is fewest", Due.corridor("w9;vs0005;").steps(5), 20);
        HowFarShesGot bends = Due.garden("w9;h00;vs0035;vh0610;vh1923;vh3034;");
        due("round the bends", bends.steps(24), 4 * 14);
        due("round all bends", bends.steps(35), 4 * 20);
        due("from a road", Due.garden("kr14;").steps(15), -9);
        due("on a road", Due.garden("kr14;").steps(14), 0);
        due("square -1", x.steps(-1), -1);
        due("square 36", x.steps(36), -1);
        DUE.refusals(x, "steps", -1, 2);
    }

    private static void promise10MayBe() {
        HowFarShesGot x = Due.corridor("");
        due("at 0", x.mayBe(0, -1), 1);
        due("at 1", x.mayBe(1, -1), 1);
        due("at 5", x.mayBe(5, -1), 3);
        due("at 999", x.mayBe(999, -1), 6);
        due("0 at 5", x.mayBe(5, 0), 1);
        due("1 at 1", x.mayBe(1, 1), 0);
        due("2 at 3", x.mayBe(3, 2), 0);
        due("2 at 4", x.mayBe(4, 2), 1);
        due("hedge", x.mayBe(999, 35), 0);
        x.set(1, 9);
        due("at 17", x.mayBe(17, -1), 2);
        due("at 18", x.mayBe(18, -1), 3);
        due("t -1", x.mayBe(-1, 36), -4);
        due("square -2", x.mayBe(1000, -2), -4);
        due("t 1000", x.mayBe(1000, 36), -6);
        due("square 36", x.mayBe(999, 36), -1);
        DUE.refusals(x, "mayBe", -4, 2);
        DUE.refusals(x, "mayBe", -6, 1);
        DUE.refusals(x, "mayBe", -1, 1);
    }

    private static void promise11Out() {
        HowFarShesGot x = Due.corridor("h02;kr05;");
        due("minutes", x.out(0), 6);
        due("road", x.out(1), 5);
        x.turnTo(0, 5);
        due("a nearer road", x.out(0), 4);
        due("the nearer road", x.out(1), 0);
        x.turnTo(4, 5);
        due("of several the least", x.out(1), 0);
        x.turnTo(1, 3);
        due("the sun is slow", x.out(1), 4);
        due("a road beyond a road", x.out(0), 4);
        x.set(1, 9);
        due("pace", x.out(0), 18);
        due("what 2", x.out(2), -2);
        due("what -1", x.out(-1), -2);
        DUE.refusals(x, "out", -2, 2);
        due("no road", Due.corridor("").out(0), -9);
        due("no road's square", Due.corridor("").out(1), -9);
        due("a road she can not come to", Due.corridor("kr35;").out(0), -9);
        due("home on a road", Due.corridor("kr00;").out(0), 0);
        due("home's road", Due.corridor("kr00;kr01;").out(1), 0);
    }

    private static void promise12Shut() {
        due("no road", Due.corridor("kg01;").shut(), 0);
        due("no gap", Due.corridor("kr05;").shut(), -9);
        due("one gap", Due.corridor("kg02;kr05;").shut(), 1);
        due("of several the least", Due.corridor("kg02;kg03;kr05;").shut(), 1);
        due("a gap behind the road", Due.corridor("kg05;kr04;").shut(), -9);
        due("gaps on both sides", Due.corridor("h02;kr00;kr05;kg01;kg03;kg04;").shut(), 3);
        due("one that is no use ahead", Due.garden("h30;vh0029;kg00;kg32;kr35;").shut(), 2);
        due("fewest before least", Due.garden("h18;vh0017;vh1935;kg00;kr01;kl06;kg07;kg12;").shut(), 4);
        due("the tenth gap", Due.garden("h30;vh0029;vg0008;kg31;kr35;").shut(), 512);
        due("the eleventh gap", Due.garden("h30;vh0029;vg0009;kg31;kr35;").shut(), -9);
        due("home is a gap", Due.corridor("kg00;kr05;").shut(), 1);
        due("home is a road", Due.corridor("kr00;kg01;").shut(), -9);
        HowFarShesGot x = Due.corridor("kg02;kr05;");
        x.shut();
        due("nothing is shut behind it", x.out(0), 10);
    }

    private static void promise13FirstGap() {
        due("none", Due.corridor("kr05;").firstGap(), -9);
        due("one", Due.corridor("kg02;kr05;").firstGap(), 2);
        due("never is latest", Due.corridor("h03;kg01;kg04;kr00;").firstGap(), 1);
        due("the later", Due.corridor("h03;kr05;kg04;kr00;kg01;").firstGap(), 4);
        due("the earlier", Due.corridor("h02;kr00;kg01;kr05;kg03;").firstGap(), 1);
        due("of several the least", Due.corridor("kg01;kg02;kr05;").firstGap(), 1);
        due("without roads the least", Due.corridor("kg04;kg03;").firstGap(), 3);
        due("a way round", Due.garden("kg15;kr16;").firstGap(), 15);
        due("home is a gap", Due.corridor("kg00;kg01;kr05;").firstGap(), 0);
        due("any gap, by number the eleventh too",
            Due.garden("h30;vh0029;vg0009;kg31;kr35;").firstGap(), 31);
        due("steps count, not squares", Due.garden("h00;vh0635;kl06;kl12;kr18;w9;ks06;kg12;kr05;kg02;")
            .firstGap(), 2);
    }
}
