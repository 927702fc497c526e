/** HOLD, WAYS, how likely she is where, and TURNING: promises 19 to 23. */
final class HoldBounds {
    private static final int LEAST = Integer.MIN_VALUE;
    private static final int GREATEST = Integer.MAX_VALUE;

    private final Sentences s;
    private final Twins twins;

    HoldBounds(Sentences sentences) {
        s = sentences;
        twins = new Twins(sentences);
    }

    void all() {
        held();
        oneMore();
        ways();
        likely();
        turning();
        promise19Hold();
        promise20Ways();
        promise21Likely();
        promise22Likeliest();
        promise23Turning();
    }

    private void hold(String name, HowFarShesGot x, int out, int many, int oneMore) {
        s.due(name + ": hold(0)", x.hold(0), out);
        s.due(name + ": hold(1)", x.hold(1), many);
        s.due(name + ": hold(2)", x.hold(2), oneMore);
    }

    private void held() {
        String words = "HOLD: a ROW of SQUARES that are held (as HEDGES; HOME never)";
        s.terms(words, "none, one, twelve", () -> {
            hold("none", Due.corridor("kr05;"), 1, 6, 1);
            hold("one", Due.row(Due.corridor("kr05;"), 3), 0, 3, 1);
            hold("the same twice", Due.row(Due.corridor("kr05;"), 3, 3), 0, 3, 1);
            HowFarShesGot x = Due.row(new HowFarShesGot(), 0, 1, 2, 3, 4, 5, 6, 7, 8, 9, 10, 11);
            s.due("twelve: hold(1)", x.hold(1), 24);
        });
        s.terms(words, "0 and 35", () -> {
            s.due("0", Due.row(Due.corridor("h01;"), 0).hold(1), 5);
            s.due("35", Due.row(Due.garden("kr35;"), 35).hold(0), 0);
        });
        s.terms(words, "HOME never, wherever it is", () -> {
            hold("HOME", Due.row(Due.corridor("kr05;"), 0), 1, 6, 1);
            hold("HOME twice", Due.row(Due.corridor("kr05;"), 0, 0), 1, 6, 1);
            HowFarShesGot x = Due.row(Due.corridor("kr05;"), 1);
            s.due("ahead of HOME", x.hold(1), 1);
            x.set(0, 1);
            s.due("it is HOME now", x.hold(1), 6);
        });
        s.terms(words, "gaps, suns, beds, roads and hedges alike", () -> {
            for (char kind : "lhgsbr".toCharArray()) {
                s.due("held " + kind, Due.row(Due.corridor("k" + kind + "02;"), 2).hold(1), 2);
            }
        });
        s.terms("whether she can be OUT then: 1, 0;", "a road ahead, a road held, HOME a road, no road", () -> {
            s.due("ahead", Due.corridor("kr05;").hold(0), 1);
            s.due("held", Due.row(Due.corridor("kr05;"), 5).hold(0), 0);
            s.due("one held, one not", Due.row(Due.corridor("h03;kr05;kr00;"), 5).hold(0), 1);
            s.due("HOME", Due.row(Due.corridor("kr00;"), 0, 1).hold(0), 1);
            s.due("none", Due.corridor("").hold(0), 0);
            s.due("by no minute too late", Due.garden("p9;w9;h00;vs0035;vh0610;vh1923;vh3034;kr35;").hold(0), 1);
        });
        s.terms("on how many SQUARES she can ever be;", "from 1 to 36", () -> {
            s.due("HOME alone", Due.garden("h00;kh01;kh06;").hold(1), 1);
            s.due("HOME alone on a road", Due.garden("kr14;").hold(1), 1);
            s.due("all", new HowFarShesGot().hold(1), 36);
            s.due("a road is the last", Due.corridor("kr03;").hold(1), 4);
        });
    }

    private void oneMore() {
        String words = "ONE MORE: the SQUARE that, held too, leaves her fewest, of several the least.";
        s.terms(words, "of several the least: 0, when she is on one alone", () -> {
            s.due("HOME alone", Due.garden("h35;kh29;kh34;").hold(2), 0);
            s.due("HOME alone by those held", Due.row(Due.garden("h35;"), 29, 34).hold(2), 0);
            s.due("HOME alone and the least", Due.row(Due.garden("h00;"), 1, 6).hold(2), 0);
            s.due("a road", Due.garden("kr14;").hold(2), 0);
        });
        s.terms(words, "of several the least: though it is a hedge, or held already", () -> {
            s.due("a hedge", Due.garden("h35;kh29;kh34;kh00;").hold(2), 0);
            s.due("held", Due.row(Due.garden("h35;"), 0, 29, 34).hold(2), 0);
        });
        s.terms(words, "of several the least: of all that take but themselves", () -> {
            s.due("lawn", new HowFarShesGot().hold(2), 0);
            s.due("0 is held", Due.row(new HowFarShesGot(), 0).hold(2), 1);
            s.due("HOME is 0", Due.garden("h00;").hold(2), 1);
            s.due("either side of HOME", Due.corridor("h03;kh00;").hold(2), 2);
        });
        s.terms(words, "fewest, not the least", () -> {
            s.due("35", Due.garden("h34;kh33;kh28;").hold(2), 35);
            s.due("the next on a way", Due.corridor("h05;").hold(2), 4);
            s.due("a door", Due.garden("h30;vh1823;kl20;").hold(2), 26);
            s.due("a door behind that one", Due.row(Due.garden("h00;vh1823;kl20;"), 35).hold(2), 14);
        });
        s.terms(words, "those held stay held", () -> {
            HowFarShesGot x = Due.row(Due.corridor("h02;"), 3);
            s.due("hold(2)", x.hold(2), 1);
            s.due("hold(1)", x.hold(1), 3);
        });
    }

    private void ways(HowFarShesGot x, int n, long... due) {
        for (int square = 0; square < due.length; square++) {
            s.due("ways(" + n + ", " + square + ")", x.ways(n, square), due[square]);
        }
    }

    private void ways() {
        s.terms("WAYS of n STEPS (0 .. 20;", "0 and 20 STEPS", () -> {
            ways(Due.corridor(""), 0, 1, 0, 0, 0, 0, 0, 0);
            ways(Due.corridor(""), 1, 1, 1, 0, 0, 0, 0, 0);
            ways(Due.corridor(""), 20, 49726649, 88560464, 108552585, 106466024, 83872004, 45966796, 0);
            ways(Due.corridor("vh0205;"), 20, 524288, 524288, 0);
        });
        s.terms("how many end on a SQUARE;", "more than an int holds", () -> {
            HowFarShesGot x = new HowFarShesGot();
            s.due("ways(20, 14)", x.ways(20, 14), 1392470618509L);
            s.due("ways(19, 14)", x.ways(19, 14), 303828960367L);
            s.due("ways(20, 0)", x.ways(20, 0), 299947067516L);
            s.due("ways(20, 35)", x.ways(20, 35), 234288333936L);
        });
        s.terms("all SQUARES as LAWN, but where she can not be;",
            "suns, beds and gaps as lawn, whatever WARM is", () -> {
                ways(Due.corridor("w9;ks00;kb01;kg02;ks03;"), 4, 9, 12, 9, 4, 1, 0, 0);
                ways(Due.corridor("w0;ks00;kb01;kg02;ks03;"), 4, 9, 12, 9, 4, 1, 0, 0);
            });
        s.terms("all SQUARES as LAWN, but where she can not be;", "no way onto a hedge", () ->
            ways(Due.corridor("kh02;"), 20, 524288, 524288, 0, 0, 0, 0, 0));
        s.terms("off ROADS none but staying)", "off roads none but staying", () -> {
            ways(Due.corridor("kr02;"), 3, 4, 4, 3, 0, 0, 0, 0);
            ways(Due.corridor("kr02;"), 4, 8, 8, 7, 0, 0, 0, 0);
            ways(Due.corridor("kr00;"), 20, 1, 0, 0, 0, 0, 0, 0);
        });
        s.terms("a STEP is to one beside it or she stays;", "on HOME's corner and in the middle", () -> {
            s.due("corner", Due.garden("h35;").ways(2, 35), 3);
            s.due("edge", Due.garden("h03;").ways(2, 3), 4);
            s.due("middle", new HowFarShesGot().ways(2, 14), 5);
        });
    }

    private void likely(HowFarShesGot x, int n, int square, long above, long below) {
        s.due("likely(" + n + ", " + square + ", 0)", x.likely(n, square, 0), above);
        s.due("likely(" + n + ", " + square + ", 1)", x.likely(n, square, 1), below);
    }

    private void likely() {
        String words = "how likely she is there, all WAYS alike;";
        s.terms(words, "surely, never, and between", () -> {
            likely(Due.corridor(""), 0, 0, 1, 1);
            likely(Due.corridor(""), 20, 6, 0, 1);
            likely(Due.corridor(""), 2, 0, 2, 5);
            likely(Due.corridor(""), 2, 2, 1, 5);
            likely(Due.garden("kr14;"), 20, 14, 1, 1);
        });
        s.terms(words, "by the least numbers", () -> {
            likely(Due.corridor("vh0205;"), 20, 1, 1, 2);
            likely(Due.corridor(""), 4, 2, 9, 35);
            likely(Due.corridor(""), 4, 1, 12, 35);
            likely(Due.corridor("kr02;"), 1, 0, 1, 2);
            likely(Due.corridor("kr02;"), 2, 0, 2, 5);
            likely(Due.corridor("kr02;"), 3, 0, 4, 11);
            likely(Due.corridor("vh0305;"), 2, 1, 2, 5);
        });
        s.terms(words, "more than an int holds", () -> {
            likely(new HowFarShesGot(), 20, 14, 1392470618509L, 27245744501135L);
            likely(new HowFarShesGot(), 20, 3, 125483965788L, 5449148900227L);
        });
        s.terms("the likeliest SQUARE, of several the least.", "0, 35 and of several", () -> {
            s.due("HOME", new HowFarShesGot().likeliest(0), 14);
            s.due("all beside alike", new HowFarShesGot().likeliest(1), 8);
            s.due("two alike", Due.corridor("").likeliest(2), 0);
            s.due("three STEPS", Due.corridor("").likeliest(3), 1);
            s.due("20 STEPS", Due.corridor("").likeliest(20), 2);
            s.due("35", Due.garden("kr35;h35;").likeliest(20), 35);
            s.due("more than an int holds", new HowFarShesGot().likeliest(20), 14);
        });
    }

    private void turning() {
        s.terms("facing (0 up, 1 left, 2 down, 3 right)", "0 up, 1 left, 2 down, 3 right", () -> {
            int[] due = {8, 13, 20, 15};
            for (int facing = 0; facing < 4; facing++) {
                s.due("turning(" + facing + ", 1)", new HowFarShesGot().turning(facing, 1), due[facing]);
                s.due("turning(" + facing + ", 0)", new HowFarShesGot().turning(facing, 0), 14);
            }
        });
        s.terms("TURNING: she turns left at what she can not go on to",
            "left of each: up, left, down, right, up", () -> {
                int[] hedges = {8, 13, 20, 15};
                int[] due = {13, 20, 15, 8};
                for (int facing = 0; facing < 4; facing++) {
                    HowFarShesGot x = new HowFarShesGot();
                    x.turnTo(hedges[facing], 1);
                    s.due("at a hedge turning(" + facing + ", 1)", x.turning(facing, 1), 14);
                    s.due("then turning(" + facing + ", 2)", x.turning(facing, 2), due[facing]);
                }
            });
        s.terms("n STEPS (0 .. 99;", "98 and 99 STEPS", () -> {
            HowFarShesGot x = Due.corridor("");
            s.due("turning(3, 97)", x.turning(3, 97), 0);
            s.due("turning(3, 98)", x.turning(3, 98), 0);
            s.due("turning(3, 99)", x.turning(3, 99), 1);
        });
        s.terms("each STEP she goes ahead if she can, else faces left (that is the STEP): where she is.",
            "round by the edge; hedges are as the edge", () -> {
                int[] edge = {14, 8, 2, 2, 1, 0, 0, 6, 12, 18, 24, 30, 30, 31};
                int[] hedges = {2, 8, 14, 20, 26, 26, 26, 20, 14, 8, 2, 2, 1, 0};
                for (int n = 0; n < edge.length; n++) {
                    s.due("by the edge turning(0, " + n + ")", new HowFarShesGot().turning(0, n), edge[n]);
                    HowFarShesGot x = Due.garden("vh0306;vh0912;vh1518;vh2124;vh2735;h02;");
                    s.due("by hedges turning(2, " + n + ")", x.turning(2, n), hedges[n]);
                }
            });
        s.terms("each SQUARE as LAWN)", "suns, beds and gaps as lawn; off a road she never goes", () -> {
            s.due("slow ones", Due.corridor("w9;ks00;kb01;ks02;kg03;").turning(3, 4), 4);
            s.due("a road", Due.corridor("kr03;").turning(3, 99), 3);
            s.due("HOME a road", Due.garden("kr14;").turning(0, 99), 14);
        });
        s.terms("TURNING: she turns left at what she can not go on to", "nowhere to go", () -> {
            HowFarShesGot x = Due.garden("h00;kh01;kh06;");
            for (int facing = 0; facing < 4; facing++) {
                s.due("turning(" + facing + ", 99)", x.turning(facing, 99), 0);
            }
        });
    }

    private void promise19Hold() {
        s.promise(19, "HOLD by the ROW (it stays): OUT (what 0), how many (1), ONE MORE (2).",
            "nothing changes by it", () -> {
                twins.asks(() -> Due.row(Due.corridor("kr05;"), 3), 0, "hold(0)", x -> x.hold(0));
                twins.asks(() -> Due.row(Due.corridor("kr05;"), 3), 3, "hold(1)", x -> x.hold(1));
                twins.asks(() -> Due.row(Due.corridor("kr05;"), 3), 1, "hold(2)", x -> x.hold(2));
                twins.asks(Twins.FRESH, 36, "hold(1)", x -> x.hold(1));
            });
        s.promise(19, "-2; -3 one of it above 35.", "-2: what -1 and 3", () -> {
            for (int what : new int[] {LEAST, -1, 3, GREATEST}) {
                twins.refused(-2, "hold(" + what + ")", x -> x.hold(what));
            }
        });
        s.promise(19, "-2; -3 one of it above 35.", "-3: 36 and 99, wherever in the ROW; not 35", () -> {
            for (int above : new int[] {36, 99}) {
                for (int what = 0; what <= 2; what++) {
                    int asked = what;
                    twins.refused(() -> Due.row(Due.corridor(""), above), -3, "hold", x -> x.hold(asked));
                    twins.refused(() -> Due.row(Due.corridor(""), above, 1), -3, "hold", x -> x.hold(asked));
                    twins.refused(() -> Due.row(Due.corridor(""), 1, above), -3, "hold", x -> x.hold(asked));
                    twins.refused(() -> Due.row(Due.corridor(""), 0, 0, 0, 0, 0, 0, 0, 0, 0, 0, 0, above), -3, "hold",
                        x -> x.hold(asked));
                }
            }
            twins.asks(() -> Due.row(Due.corridor(""), 35), 6, "hold(1)", x -> x.hold(1));
        });
        s.promise(19, "-2; -3 one of it above 35.", "-2 before -3", () -> {
            twins.refused(() -> Due.row(Due.corridor(""), 36), -2, "hold(3)", x -> x.hold(3));
            twins.refused(() -> Due.row(Due.corridor(""), 36), -2, "hold(-1)", x -> x.hold(-1));
        });
    }

    private void promise20Ways() {
        s.promise(20, "WAYS. Refused as told: -4; -6 20; -1.", "-4: n -1", () -> {
            twins.refusedLong(-4, "ways(-1, 0)", x -> x.ways(-1, 0));
            twins.refusedLong(-4, "ways(least, 0)", x -> x.ways(LEAST, 0));
        });
        s.promise(20, "WAYS. Refused as told: -4; -6 20; -1.", "-6: n 21, not 20", () -> {
            twins.refusedLong(-6, "ways(21, 0)", x -> x.ways(21, 0));
            twins.refusedLong(-6, "ways(greatest, 0)", x -> x.ways(GREATEST, 0));
            twins.asks(Twins.FRESH, 1392470618509L, "ways(20, 14)", x -> x.ways(20, 14));
        });
        s.promise(20, "WAYS. Refused as told: -4; -6 20; -1.", "-1: squares -1 and 36", () -> {
            for (int square : new int[] {LEAST, -1, 36, GREATEST}) {
                twins.refusedLong(-1, "ways(0, " + square + ")", x -> x.ways(0, square));
                twins.refusedLong(-1, "ways(20, " + square + ")", x -> x.ways(20, square));
            }
        });
        s.promise(20, "WAYS. Refused as told: -4; -6 20; -1.", "-4 and -6 before -1", () -> {
            twins.refusedLong(-4, "ways(-1, 36)", x -> x.ways(-1, 36));
            twins.refusedLong(-4, "ways(-1, -1)", x -> x.ways(-1, -1));
            twins.refusedLong(-6, "ways(21, 36)", x -> x.ways(21, 36));
        });
    }

    private void promise21Likely() {
        String words = "Refused as told: -4; -6 20; -1; -2.";
        s.promise(21, "How likely, part 0 above, 1 below the line.", "0 and 1; nothing changes by it", () -> {
            twins.asks(() -> Due.corridor(""), 2, "likely(2, 0, 0)", x -> x.likely(2, 0, 0));
            twins.asks(() -> Due.corridor(""), 5, "likely(2, 0, 1)", x -> x.likely(2, 0, 1));
        });
        s.promise(21, words, "-4: n -1", () -> {
            twins.refusedLong(-4, "likely(-1, 0, 0)", x -> x.likely(-1, 0, 0));
            twins.refusedLong(-4, "likely(least, 0, 1)", x -> x.likely(LEAST, 0, 1));
        });
        s.promise(21, words, "-6: n 21, not 20", () -> {
            twins.refusedLong(-6, "likely(21, 0, 0)", x -> x.likely(21, 0, 0));
            twins.refusedLong(-6, "likely(greatest, 0, 1)", x -> x.likely(GREATEST, 0, 1));
            twins.asks(Twins.FRESH, 27245744501135L, "likely(20, 14, 1)", x -> x.likely(20, 14, 1));
        });
        s.promise(21, words, "-1: squares -1 and 36", () -> {
            for (int square : new int[] {LEAST, -1, 36, GREATEST}) {
                twins.refusedLong(-1, "likely(0, " + square + ", 0)", x -> x.likely(0, square, 0));
                twins.refusedLong(-1, "likely(20, " + square + ", 1)", x -> x.likely(20, square, 1));
            }
        });
        s.promise(21, words, "-2: parts -1 and 2", () -> {
            for (int part : new int[] {LEAST, -1, 2, GREATEST}) {
                twins.refusedLong(-2, "likely(0, 0, " + part + ")", x -> x.likely(0, 0, part));
                twins.refusedLong(-2, "likely(20, 35, " + part + ")", x -> x.likely(20, 35, part));
            }
        });
        s.promise(21, words, "-4 and -6 before -1 before -2", () -> {
            twins.refusedLong(-4, "likely(-1, 36, 2)", x -> x.likely(-1, 36, 2));
            twins.refusedLong(-4, "likely(-1, 0, 2)", x -> x.likely(-1, 0, 2));
            twins.refusedLong(-6, "likely(21, 36, 2)", x -> x.likely(21, 36, 2));
            twins.refusedLong(-6, "likely(21, 0, -1)", x -> x.likely(21, 0, -1));
            twins.refusedLong(-1, "likely(20, 36, 2)", x -> x.likely(20, 36, 2));
            twins.refusedLong(-1, "likely(0, -1, -1)", x -> x.likely(0, -1, -1));
        });
    }

    private void promise22Likeliest() {
        s.promise(22, "The likeliest SQUARE. -4; -6 20.", "-4: n -1", () -> {
            twins.refused(-4, "likeliest(-1)", x -> x.likeliest(-1));
            twins.refused(-4, "likeliest(least)", x -> x.likeliest(LEAST));
        });
        s.promise(22, "The likeliest SQUARE. -4; -6 20.", "-6: n 21, not 20", () -> {
            twins.refused(-6, "likeliest(21)", x -> x.likeliest(21));
            twins.refused(-6, "likeliest(greatest)", x -> x.likeliest(GREATEST));
            twins.asks(Twins.FRESH, 14, "likeliest(20)", x -> x.likeliest(20));
            twins.asks(Twins.RICH, 21, "likeliest(0)", x -> x.likeliest(0));
        });
    }

    private void promise23Turning() {
        s.promise(23, "TURNING. -2 facing; -4; -6 99.", "-2: facing -1 and 4", () -> {
            for (int facing : new int[] {LEAST, -1, 4, GREATEST}) {
                twins.refused(-2, "turning(" + facing + ", 0)", x -> x.turning(facing, 0));
            }
        });
        s.promise(23, "TURNING. -2 facing; -4; -6 99.", "-4: n -1", () -> {
            twins.refused(-4, "turning(0, -1)", x -> x.turning(0, -1));
            twins.refused(-4, "turning(3, least)", x -> x.turning(3, LEAST));
        });
        s.promise(23, "TURNING. -2 facing; -4; -6 99.", "-6: n 100, not 99", () -> {
            twins.refused(-6, "turning(0, 100)", x -> x.turning(0, 100));
            twins.refused(-6, "turning(3, greatest)", x -> x.turning(3, GREATEST));
            twins.asks(() -> Due.corridor(""), 1, "turning(3, 99)", x -> x.turning(3, 99));
        });
        s.promise(23, "TURNING. -2 facing; -4; -6 99.", "-2 before -4 and -6", () -> {
            twins.refused(-2, "turning(4, -1)", x -> x.turning(4, -1));
            twins.refused(-2, "turning(-1, 100)", x -> x.turning(-1, 100));
        });
    }
}
