/** Where she may be by when, and how she gets out: MAY BE, STEPS, OUT, SHUT, FIRST GAP, promises 9 to 13. */
final class WhereBounds {
    private static final int LEAST = Integer.MIN_VALUE;
    private static final int GREATEST = Integer.MAX_VALUE;
    /** HOME 20 in a row between gaps, 12 to 17 and 24 to 27, behind which there are roads: ten gaps. */
    private static final String TEN_GAPS = "vh0005;vr0611;vg1217;h20;vg2427;vh2829;vr3035;";
    /** From 30 to a road at 35: the short way goes by a gap at 31, another round it; a gap at 0 is on neither. */
    private static final String ROUND = "h30;vh0023;vh2729;kg00;kg31;kr35;";

    private final Sentences s;
    private final Twins twins;

    WhereBounds(Sentences sentences) {
        s = sentences;
        twins = new Twins(sentences);
    }

    void all() {
        ways();
        mayBe();
        askedBefore();
        out();
        shut();
        firstGap();
        shutHome();
        promise9Steps();
        promise10MayBe();
        promise11Out();
        promise12Shut();
        promise13FirstGap();
    }

    private void ways() {
        String words = "STEPS of her way from HOME: fewest together to go off all SQUARES but the last";
        s.terms(words, "the last does not count, HOME does", () -> {
            HowFarShesGot x = Due.corridor("w9;ks03;");
            s.due("onto the sun", x.steps(3), 3);
            s.due("off it", x.steps(4), 7);
            x.turnTo(0, 3);
            s.due("off HOME", x.steps(1), 4);
            s.due("HOME itself", x.steps(0), 0);
            x.turnTo(0, 4);
            s.due("off HOME's bed", x.steps(1), 2);
        });
        s.terms(words, "the fewest, though by more squares", () -> {
            s.due("as many either way", Due.garden("h00;w6;ks01;").steps(2), 4);
            s.due("through the sun", Due.garden("h00;w5;ks01;").steps(2), 3);
            s.due("through the bed", Due.garden("h00;kb01;").steps(2), 3);
            s.due("round the sun at 9", Due.garden("h00;w9;ks01;").steps(2), 4);
        });
        s.terms(words, "many slow squares", () -> {
            HowFarShesGot x = Due.garden("w9;h00;vs0035;vh0610;vh1923;vh3034;");
            s.due("14 squares", x.steps(24), 56);
            s.due("20 squares", x.steps(35), 80);
        });
        s.terms("MINUTES: STEPS times PACE.", "from 80 STEPS of 1 MINUTE to 80 of 9", () -> {
            HowFarShesGot x = Due.garden("w9;h00;vs0035;vh0610;vh1923;vh3034;kr35;");
            for (int pace = 1; pace <= 9; pace++) {
                x.set(1, pace);
                s.due("out at " + pace, x.out(0), 80 * pace);
            }
        });
    }

    private void mayBe() {
        s.terms("MAY BE at MINUTE t (0 .. 999)", "0 and 999", () -> {
            HowFarShesGot x = Due.garden("p9;");
            s.due("mayBe(0, -1)", x.mayBe(0, -1), 1);
            s.due("mayBe(0, 14)", x.mayBe(0, 14), 1);
            s.due("mayBe(0, 15)", x.mayBe(0, 15), 0);
            s.due("mayBe(999, -1)", x.mayBe(999, -1), 36);
            s.due("mayBe(1000, -1)", x.mayBe(1000, -1), -6);
            s.due("mayBe(-1, -1)", x.mayBe(-1, -1), -4);
        });
        s.terms("SQUARES to which STEPS from HOME are no more than t by PACE, cut.",
            "the minute before, and then", () -> {
                for (int pace = 1; pace <= 9; pace++) {
                    HowFarShesGot x = Due.corridor("w9;ks01;kb03;p" + pace + ";");
                    int[] steps = {0, 1, 5, 6, 8, 9};
                    for (int square = 1; square < 6; square++) {
                        int t = steps[square] * pace;
                        s.due(square + " before " + t, x.mayBe(t - 1, square), 0);
                        s.due(square + " at " + t, x.mayBe(t, square), 1);
                        s.due("how many before " + t, x.mayBe(t - 1, -1), square);
                        s.due("how many at " + t, x.mayBe(t, -1), square + 1);
                    }
                }
            });
        s.terms("MAY BE at t: how many; whether a SQUARE is in it.", "one by one they are as many", () -> {
            HowFarShesGot x = Due.garden("kh15;kr20;");
            for (int t = 0; t < 8; t++) {
                int many = 0;
                for (int square = 0; square < 36; square++) {
                    many += x.mayBe(t, square);
                }
                s.due("mayBe(" + t + ", -1)", x.mayBe(t, -1), many);
            }
        });
    }

    private void askedBefore() {
        s.terms("MAY BE at t: how many; whether a SQUARE is in it.", "what was asked before is nothing to it", () -> {
            for (int far = 0; far < 36; far++) {
                HowFarShesGot x = new HowFarShesGot();
                x.set(0, far);
                s.due("on lawn", x.mayBe(999, -1), 36);
                Due.tell(x, "vg0035;h14;vh0013;vh1635;");
                s.due("on two squares", x.mayBe(999, -1), 2);
                s.due("ever", x.hold(1), 2);
                x.turnTo(15, 1);
                s.due("on HOME alone", x.mayBe(999, -1), 1);
            }
        });
    }

    private void out() {
        s.terms("STEPS to a SQUARE (-9 never).", "hedges, behind hedges, behind a road", () -> {
            HowFarShesGot x = Due.corridor("kr03;kl35;");
            int[] steps = {0, 1, 2, 3, -9, -9, -9};
            for (int square = 0; square < steps.length; square++) {
                s.due("steps(" + square + ")", x.steps(square), steps[square]);
            }
            s.due("steps(35)", x.steps(35), -9);
            s.due("off a road that is HOME", Due.garden("kr14;").steps(15), -9);
            s.due("on a road that is HOME", Due.garden("kr14;").steps(14), 0);
        });
        s.terms("OUT: in how many MINUTES she can be on a ROAD; -9;",
            "no road, none that she can come to, one that is HOME", () -> {
                s.due("no road", Due.corridor("").out(0), -9);
                s.due("on which", Due.corridor("").out(1), -9);
                s.due("behind hedges", Due.corridor("kr35;").out(0), -9);
                s.due("on which behind hedges", Due.corridor("kr35;").out(1), -9);
                s.due("HOME", Due.corridor("kr00;kr01;").out(0), 0);
                s.due("on which HOME", Due.corridor("h01;kr00;kr01;").out(1), 1);
            });
        s.terms("on which, of several the least.",
            "of several that are as soon the least; of others the soonest", () -> {
                HowFarShesGot x = Due.garden("kr08;kr13;kr15;kr20;");
                s.due("four", x.out(1), 8);
                x.turnTo(8, 0);
                s.due("three", x.out(1), 13);
                x.turnTo(13, 0);
                s.due("two", x.out(1), 15);
                x.turnTo(15, 0);
                s.due("one", x.out(1), 20);
                x.turnTo(0, 5);
                s.due("a later one is less", x.out(1), 20);
                s.due("minutes", x.out(0), 2);
            });
        s.terms("on which, of several the least.", "0 and 35 can be it", () -> {
            s.due("0", Due.garden("kr00;").out(1), 0);
            s.due("35", Due.garden("kr35;").out(1), 35);
        });
    }

    private void shut() {
        s.terms("SHUT: of the GAPS (those of KIND g;", "roads and hedges have no number among them", () -> {
            s.due("road, gap, HOME, gap, road", Due.corridor("h03;kr00;kr01;kg02;kg04;kr05;").shut(), 3);
            s.due("road, HOME, gap, road", Due.corridor("h03;kr02;kg04;kr05;").shut(), -9);
        });
        s.terms("by numbers, the first 10 alone, as bits of these)", "all ten", () ->
            s.due("shut()", Due.garden(TEN_GAPS).shut(), 1023));
        s.terms("by numbers, the first 10 alone, as bits of these)", "an eleventh is never SHUT", () -> {
            s.due("one more on another way", Due.garden(TEN_GAPS + "kg28;").shut(), -9);
            s.due("the tenth alone", Due.garden("h30;vh0029;vg0008;kg31;kr35;").shut(), 512);
            s.due("the eleventh alone", Due.garden("h30;vh0029;vg0009;kg31;kr35;").shut(), -9);
        });
        s.terms("by numbers, the first 10 alone, as bits of these)", "not as they were told", () -> {
            s.due("told first", Due.garden("h30;vh0029;kg31;vg0008;kr35;").shut(), 512);
            s.due("the first of two", Due.corridor("h02;kr05;kg03;kg01;").shut(), 2);
        });
        s.terms("the fewest that, SHUT, keep her from all ROADS", "one of greater bits before two of less", () -> {
            // HOME 18; by 12 to 6, 0 and 7; roads behind 0 and 7: gaps 0, 7 and 12.
            HowFarShesGot x = Due.garden("h18;vh0017;vh1935;kg00;kr01;kl06;kg07;kg12;kr08;");
            s.due("the third alone", x.shut(), 4);
            x.turnTo(12, 0);
            s.due("the first two", x.shut(), 3);
        });
        s.terms("the fewest that, SHUT, keep her from all ROADS", "none, if she is kept from them anyhow", () -> {
            s.due("no road", Due.corridor("kg01;kg02;").shut(), 0);
            s.due("a road behind hedges", Due.corridor("kg01;kr35;").shut(), 0);
            s.due("neither gap nor road", new HowFarShesGot().shut(), 0);
        });
        s.terms("of several the least bits; -9", "of one and one the first; of two and two", () -> {
            s.due("one of three", Due.corridor("kg01;kg02;kg03;kr05;").shut(), 1);
            s.due("one on each side", Due.corridor("h02;kr00;kg01;kg03;kg04;kr05;").shut(), 3);
            s.due("one before, two behind", Due.corridor("h03;kr00;kg01;kg02;kg04;kr05;").shut(), 5);
        });
        s.terms("of several the least bits; -9", "she can not be kept", () -> {
            s.due("no gap", Due.corridor("kr05;").shut(), -9);
            s.due("a gap elsewhere", Due.corridor("kr05;kg35;").shut(), -9);
            s.due("a gap behind the road", Due.corridor("kr04;kg05;").shut(), -9);
            s.due("HOME is a road", Due.corridor("kr00;kg01;").shut(), -9);
        });
    }

    private void firstGap() {
        String words = "FIRST GAP: the SQUARE of the GAP that, SHUT alone, makes OUT latest (never is latest)";
        s.terms(words, "later by two, not the least", () ->
            s.due("firstGap()", Due.garden(ROUND).firstGap(), 31));
        s.terms(words, "never is later still", () -> {
            s.due("by the greater", Due.garden(ROUND + "kg33;").firstGap(), 33);
            s.due("by the less", Due.garden("h35;vh0026;kg34;kg31;kr30;").firstGap(), 31);
        });
        s.terms(words, "the one ahead of the nearer of two roads", () -> {
            HowFarShesGot x = Due.corridor("h02;kr00;kg01;kg04;kr05;");
            s.due("nearer to 0", x.firstGap(), 1);
            x.set(0, 3);
            s.due("nearer to 5", x.firstGap(), 4);
        });
        s.terms(words, "alone: the others are as ever", () ->
            s.due("two ways of as many", Due.corridor("h02;kr00;kg01;kg03;kr04;").firstGap(), 1));
        s.terms("of several the least; -9 none.", "of several the least", () -> {
            s.due("each makes her never OUT", Due.corridor("kg04;kg02;kg03;kr05;").firstGap(), 2);
            s.due("none makes her later", Due.garden("kg35;kg34;kr15;").firstGap(), 34);
            s.due("never OUT anyhow", Due.corridor("kg03;kg05;").firstGap(), 3);
            s.due("0 and 35", Due.garden("kg00;kg35;kr15;").firstGap(), 0);
            s.due("35 alone", Due.garden("kg35;kr15;").firstGap(), 35);
            s.due("OUT at 0 anyhow", Due.garden("kr14;kg20;kg07;").firstGap(), 7);
        });
        s.terms("of several the least; -9 none.", "-9: there is no gap", () -> {
            s.due("a road", Due.corridor("kr05;").firstGap(), -9);
            s.due("lawn", new HowFarShesGot().firstGap(), -9);
        });
    }

    private void shutHome() {
        String words = "A HOME that is SHUT: she can be on no SQUARE then, never OUT.";
        s.terms(words, "SHUT alone it keeps her from all roads", () -> {
            s.due("one of the gaps", Due.garden("vr0005;vr3035;kg14;kg07;").shut(), 2);
            s.due("first gap", Due.garden("vr0005;vr3035;kg14;kg07;").firstGap(), 14);
            s.due("the only one", Due.garden("kg14;kr15;").shut(), 1);
        });
        s.terms(words, "nothing is SHUT behind the call", () -> {
            HowFarShesGot x = Due.garden("kg14;kr15;");
            x.shut();
            x.firstGap();
            s.due("out", x.out(0), 2);
            s.due("may be", x.mayBe(0, 14), 1);
        });
    }

    private void promise9Steps() {
        s.promise(9, "STEPS to it; -9. -1.", "0 to HOME, -9 never", () -> {
            s.due("HOME", new HowFarShesGot().steps(14), 0);
            s.due("beside", new HowFarShesGot().steps(20), 1);
            s.due("never", Due.corridor("").steps(6), -9);
        });
        s.promise(9, "STEPS to it; -9. -1.", "-1: squares -1 and 36", () -> {
            for (int square : new int[] {LEAST, -9, -1, 36, GREATEST}) {
                twins.refused(-1, "steps(" + square + ")", x -> x.steps(square));
            }
        });
        s.promise(9, "STEPS to it; -9. -1.", "-9 is no refusal, and nothing changes", () -> {
            twins.asks(Twins.RICH, -9, "steps(0)", x -> x.steps(0));
            twins.asks(Twins.FULL, 0, "steps(21)", x -> x.steps(21));
        });
    }

    private void promise10MayBe() {
        s.promise(10, "how many (square -1), whether it is in it: 1, 0.", "-1, 0 and 35", () -> {
            HowFarShesGot x = Due.garden("h35;");
            s.due("how many", x.mayBe(0, -1), 1);
            s.due("35 is in it", x.mayBe(0, 35), 1);
            s.due("0 is not", x.mayBe(19, 0), 0);
            s.due("0 is in it", x.mayBe(20, 0), 1);
        });
        s.promise(10, "-4 (t below 0, square below -1)", "t -1, square -2", () -> {
            for (int below : new int[] {LEAST, -2}) {
                twins.refused(-4, "mayBe(0, " + below + ")", x -> x.mayBe(0, below));
                twins.refused(-4, "mayBe(999, " + below + ")", x -> x.mayBe(999, below));
                twins.refused(-4, "mayBe(" + below + ", 0)", x -> x.mayBe(below, 0));
            }
            twins.refused(-4, "mayBe(-1, -1)", x -> x.mayBe(-1, -1));
            twins.refused(-4, "mayBe(-1, 0)", x -> x.mayBe(-1, 0));
            twins.refused(-4, "mayBe(-1, -2)", x -> x.mayBe(-1, -2));
        });
        s.promise(10, "-6 999; -1.", "-6: t 1000", () -> {
            twins.refused(-6, "mayBe(1000, 0)", x -> x.mayBe(1000, 0));
            twins.refused(-6, "mayBe(1000, -1)", x -> x.mayBe(1000, -1));
            twins.refused(-6, "mayBe(greatest, 0)", x -> x.mayBe(GREATEST, 0));
        });
        s.promise(10, "-6 999; -1.", "-1: square 36", () -> {
            twins.refused(-1, "mayBe(0, 36)", x -> x.mayBe(0, 36));
            twins.refused(-1, "mayBe(999, 36)", x -> x.mayBe(999, 36));
            twins.refused(-1, "mayBe(999, greatest)", x -> x.mayBe(999, GREATEST));
        });
        s.promise(10, "-6 999; -1.", "-4 before -6 before -1", () -> {
            twins.refused(-4, "mayBe(-1, 36)", x -> x.mayBe(-1, 36));
            twins.refused(-4, "mayBe(1000, -2)", x -> x.mayBe(1000, -2));
            twins.refused(-6, "mayBe(1000, 36)", x -> x.mayBe(1000, 36));
        });
        s.promise(10, "MAY BE at t", "nothing changes by it", () -> {
            twins.asks(Twins.FRESH, 36, "mayBe(999, -1)", x -> x.mayBe(999, -1));
            twins.asks(Twins.RICH, 0, "mayBe(999, 0)", x -> x.mayBe(999, 0));
        });
    }

    private void promise11Out() {
        s.promise(11, "OUT: MINUTES (what 0), the ROAD (1); -9. -2.", "0 and 1", () -> {
            HowFarShesGot x = Due.corridor("kr05;p9;");
            s.due("out(0)", x.out(0), 45);
            s.due("out(1)", x.out(1), 5);
        });
        s.promise(11, "OUT: MINUTES (what 0), the ROAD (1); -9. -2.", "-9 of both, and no refusal", () -> {
            twins.asks(Twins.FRESH, -9, "out(0)", x -> x.out(0));
            twins.asks(Twins.FRESH, -9, "out(1)", x -> x.out(1));
            twins.asks(Twins.RICH, 11, "out(1)", x -> x.out(1));
        });
        s.promise(11, "OUT: MINUTES (what 0), the ROAD (1); -9. -2.", "-2: what -1 and 2", () -> {
            for (int what : new int[] {LEAST, -1, 2, GREATEST}) {
                twins.refused(-2, "out(" + what + ")", x -> x.out(what));
            }
        });
    }

    private void promise12Shut() {
        s.promise(12, "SHUT (bits; 0 she can not be OUT as it is); -9.", "0, 1, 512 and -9", () -> {
            s.due("no road", Due.corridor("kg01;").shut(), 0);
            s.due("the first", Due.corridor("kg01;kr05;").shut(), 1);
            s.due("the tenth", Due.garden("h30;vh0029;vg0008;kg31;kr35;").shut(), 512);
            s.due("no gap", Due.corridor("kr05;").shut(), -9);
        });
        s.promise(12, "SHUT (bits; 0 she can not be OUT as it is); -9.", "nothing changes by it", () -> {
            twins.asks(Twins.FRESH, 0, "shut()", HowFarShesGot::shut);
            twins.asks(() -> Due.garden(TEN_GAPS), 1023, "shut()", HowFarShesGot::shut);
            twins.asks(() -> Due.corridor("kr05;"), -9, "shut()", HowFarShesGot::shut);
        });
    }

    private void promise13FirstGap() {
        s.promise(13, "FIRST GAP; -9.", "a square, 0 too; -9 is no refusal; nothing changes by it", () -> {
            twins.asks(() -> Due.corridor("kg00;kr05;"), 0, "firstGap()", HowFarShesGot::firstGap);
            twins.asks(() -> Due.garden(ROUND), 31, "firstGap()", HowFarShesGot::firstGap);
            twins.asks(Twins.FRESH, -9, "firstGap()", HowFarShesGot::firstGap);
        });
    }
}
