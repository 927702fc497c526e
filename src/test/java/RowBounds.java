/** FINDS, the ROW, JUDGED, LEFT and LOTS: promises 24 to 28. */
final class RowBounds {
    private static final int LEAST = Integer.MIN_VALUE;
    private static final int GREATEST = Integer.MAX_VALUE;

    private final Sentences s;
    private final Twins twins;

    RowBounds(Sentences sentences) {
        s = sentences;
        twins = new Twins(sentences);
    }

    void all() {
        firstPair();
        homes();
        judged();
        left();
        lots();
        draws();
        promise24Finds();
        promise25Row();
        promise26Judge();
        promise27Behind();
        promise28Lots();
    }

    private static HowFarShesGot rowIn(String garden, int... row) {
        return Due.row(Due.corridor(garden), row);
    }

    private void pair(String garden, int due, int... row) {
        s.due("finds(0) in " + garden, rowIn(garden, row).finds(0), due);
    }

    private void firstPair() {
        s.terms("she set out from HOME at MINUTE 0;", "minute 0 at HOME alone", () -> {
            pair("", -9, 0, 0);
            pair("", 0, 1, 0);
            pair("h01;", -9, 1, 0);
            pair("h01;", 0, 0, 0);
        });
        s.terms("FINDS: a ROW by twos tells SQUARES and MINUTES at which she was there", "none at all", () ->
            pair("", -9));
        s.terms("from one to the next she needs MINUTES of STEPS between them", "as many, not one less", () -> {
            pair("", -9, 2, 4);
            pair("", 0, 2, 3);
            pair("", -9, 2, 4, 0, 8);
            pair("", 1, 2, 4, 0, 7);
            pair("p9;", -9, 2, 18);
            pair("p9;", 0, 2, 17);
            pair("ks00;w9;", -9, 1, 8);
            pair("ks00;w9;", 0, 1, 7);
            pair("ks02;w9;", -9, 2, 4, 3, 12);
            pair("ks02;w9;", 1, 2, 4, 3, 11);
        });
        s.terms("from one to the next she needs MINUTES of STEPS between them", "99 minutes at most", () -> {
            s.due("11 steps of 9", Due.row(Due.garden("h00;ks00;w3;p9;"), 35, 99).finds(0), -9);
            s.due("12 steps of 9", Due.row(Due.garden("h00;ks00;w6;p9;"), 35, 99).finds(0), 0);
        });
        s.terms("(none, if there are none such: 0 on the same)", "none: on hedges and behind them", () -> {
            pair("", 0, 6, 99);
            pair("kh02;", 0, 3, 99);
            pair("", 1, 1, 50, 35, 99);
        });
        s.terms("(none, if there are none such: 0 on the same)", "0 on the same, and no minute may be before", () -> {
            pair("", -9, 2, 4, 2, 4);
            pair("", 1, 2, 4, 2, 3);
            pair("", 1, 2, 99, 2, 0);
            pair("ks00;w9;p9;", -9, 0, 0, 0, 0, 0, 0);
        });
        s.terms("the first pair that can not be by the MINUTES between",
            "0 and 5 of six; each counts from the one before", () -> {
                pair("", 5, 0, 0, 1, 2, 2, 4, 3, 6, 4, 8, 5, 9);
                pair("", -9, 0, 0, 1, 2, 2, 4, 3, 6, 4, 8, 5, 10);
                pair("", 0, 5, 9, 0, 0, 5, 0, 0, 0, 5, 0, 0, 0);
                pair("", 2, 2, 9, 2, 99, 3, 99, 4, 99);
            });
        s.terms("(ROADS are left by none); -9;", "roads", () -> {
            pair("kr02;", -9, 2, 4, 2, 99);
            pair("kr02;", 1, 2, 4, 1, 99);
            pair("kr02;", 1, 2, 4, 3, 99);
            pair("kr02;", 0, 3, 99);
            pair("kr00;", 0, 1, 99);
            pair("kr00;", -9, 0, 99);
        });
    }

    private void homes(String garden, int many, int least, int... row) {
        s.due("finds(1) in " + garden, rowIn(garden, row).finds(1), many);
        s.due("finds(2) in " + garden, rowIn(garden, row).finds(2), least);
    }

    private void homes() {
        String words = "HOMES: from how many SQUARES that she can be on all of it can be; the least; -9.";
        s.terms(words, "none told: all that are no hedges, roads too", () -> {
            homes("", 6, 0);
            homes("kr00;kl35;", 7, 0);
            homes("h05;kh00;", 5, 1);
            s.due("all", new HowFarShesGot().finds(1), 36);
            s.due("35 alone", Due.garden("h35;vh0034;").finds(2), 35);
            s.due("one alone", Due.garden("h35;vh0034;").finds(1), 1);
        });
        s.terms(words, "none can be: 0, and -9 the least", () -> {
            homes("", 0, -9, 6, 99);
            homes("", 0, -9, 2, 4, 4, 7);
        });
        s.terms(words, "all of it, not the first pair alone", () -> {
            homes("", 5, 0, 2, 4);
            homes("", 2, 4, 5, 2);
            homes("", 1, 3, 3, 1);
            homes("", 3, 0, 0, 4, 5, 99);
            homes("", 2, 0, 0, 2, 0, 2);
        });
        s.terms(words, "roads are left by none", () -> {
            homes("kr02;", 3, 3, 5, 99);
            homes("kr02;", 6, 0, 2, 99);
            homes("kr02;", 1, 2, 2, 0, 2, 99);
        });
        s.terms(words, "HOME stays where it is", () -> {
            HowFarShesGot x = rowIn("", 5, 2);
            x.finds(1);
            x.finds(2);
            s.due("HOME", x.count(0), 0);
            s.due("from it it can not be", x.finds(0), 0);
        });
    }

    private void judged() {
        s.terms("the first at a SQUARE that is not in the set any more; -9;", "none, the first, the twelfth", () -> {
            s.due("no looks", Due.corridor("").judge(0), -9);
            s.due("the first", rowIn("", 6, 0, 0).judge(999), 0);
            s.due("all", rowIn("p1;", 0, 0, 0, 0, 0, 0, 0, 0, 0, 0, 0, 0).judge(999), -9);
            s.due("the twelfth", rowIn("p1;", 0, 0, 0, 0, 0, 0, 0, 0, 0, 0, 0, 6).judge(999), 11);
        });
        s.terms("JUDGED: the ROW as looks from MINUTE t on", "she may be there from a minute on", () -> {
            s.due("not yet", rowIn("", 1).judge(1), 0);
            s.due("then", rowIn("", 1).judge(2), -9);
            s.due("35 not yet", Due.row(new HowFarShesGot(), 35).judge(11), 0);
            s.due("35 then", Due.row(new HowFarShesGot(), 35).judge(12), -9);
        });
        s.terms("the first at a SQUARE that is not in the set any more; -9;",
            "not any more, and again behind a step", () -> {
                s.due("no step between", rowIn("", 0, 0).judge(2), 1);
                s.due("a step between", rowIn("", 0, 0).judge(3), -9);
                s.due("she is found", rowIn("", 0, 0).judge(1), 1);
                s.due("a road sends none", rowIn("kr01;", 0, 0).judge(3), 1);
            });
        s.terms("the first at a SQUARE that is not in the set any more; -9;",
            "a number above 35 is no SQUARE of it", () -> {
                s.due("36", Due.row(new HowFarShesGot(), 14, 36).judge(999), 1);
                s.due("99", Due.row(new HowFarShesGot(), 99).judge(999), 0);
            });
    }

    private void left() {
        String words = "LEFT: how many are in the set behind all.";
        s.terms(words, "none, one, twelve looks", () -> {
            s.due("no looks", Due.corridor("").behind(4), 3);
            s.due("one", rowIn("", 0).behind(4), 2);
            s.due("she is found", rowIn("", 0).behind(1), 0);
            s.due("six of six", rowIn("p9;", 0, 1, 2, 3, 4, 5).behind(45), 0);
            s.due("twelve", Due.row(Due.garden("p9;"), 0, 1, 2, 3, 4, 5, 6, 7, 8, 9, 10, 11).behind(72), 30);
        });
        s.terms(words, "behind all: behind the step of the last look, and one that finds nothing too", () -> {
            s.due("a step behind the last", rowIn("", 0).behind(3), 3);
            s.due("no SQUARE", rowIn("", 36, 99).behind(2), 3);
            s.due("not there", rowIn("", 5, 5).behind(2), 3);
            s.due("nothing comes of nothing", rowIn("p1;", 0, 0, 0).behind(0), 0);
        });
    }

    /** Walks by lot, by sums in longs: how often she is OUT behind so many STEPS each. */
    private static int outs(int[] kinds, int home, int walks, int steps, int seed) {
        int[] rows = {-1, 0, 0, 1};
        int[] columns = {0, -1, 1, 0};
        long z = seed & 0xffffffffL;
        int outs = 0;
        for (int walk = 0; walk < walks; walk++) {
            int at = home;
            for (int step = 0; step < steps; step++) {
                z = (z * 1664525L + 1013904223L) % 4294967296L;
                int draw = (int) (z % 2147483648L / 256 % 4);
                int row = at / 6 + rows[draw];
                int column = at % 6 + columns[draw];
                boolean inside = row >= 0 && row < 6 && column >= 0 && column < 6;
                if (inside && kinds[at] != 5 && kinds[6 * row + column] != 1) {
                    at = 6 * row + column;
                }
            }
            outs += kinds[at] == 5 ? 1 : 0;
        }
        return outs;
    }

    private static int[] kinds(HowFarShesGot x) {
        int[] kinds = new int[36];
        for (int square = 0; square < 36; square++) {
            kinds[square] = x.square(square, 0);
        }
        return kinds;
    }

    private void lots(String garden, int walks, int seed) {
        HowFarShesGot x = Due.garden(garden);
        s.due("lots(" + walks + ", " + seed + ") in " + garden, x.lots(walks, seed),
            outs(kinds(x), x.count(0), walks, 30, seed));
    }

    private void lots() {
        s.terms("LOTS with a seed z: n walks (1 .. 20) from HOME", "from 1 walk to 20", () -> {
            for (int walks = 1; walks <= 20; walks++) {
                lots("kr08;", walks, 5);
                lots("kr35;kh15;", walks, 77);
            }
            s.due("HOME is a road: 1", Due.garden("kr14;").lots(1, 3), 1);
            s.due("HOME is a road: 20", Due.garden("kr14;").lots(20, 3), 20);
            s.due("no road", new HowFarShesGot().lots(20, 3), 0);
        });
        s.terms("each 30 STEPS", "30 STEPS, not 29 and not 31", () -> {
            HowFarShesGot x = Due.garden("kr00;kr35;");
            int[] kinds = kinds(x);
            int less = 0;
            int more = 0;
            for (int seed = 0; seed < 300; seed++) {
                int due = outs(kinds, 14, 1, 30, seed);
                less += due == outs(kinds, 14, 1, 29, seed) ? 0 : 1;
                more += due == outs(kinds, 14, 1, 31, seed) ? 0 : 1;
                s.due("lots(1, " + seed + ")", x.lots(1, seed), due);
            }
            s.due("some come to it in the 30th STEP, some in the 31st", less > 0 && more > 0 ? 1 : 0, 1);
        });
        s.terms("to a DRAW below 4 (up, left, right, down; she stays, if she can not)",
            "each of the four alone", () -> {
                int[] four = {8, 13, 15, 20};
                for (int road : four) {
                    StringBuilder garden = new StringBuilder("kr" + two(road) + ";");
                    for (int hedge : four) {
                        garden.append(hedge == road ? "" : "kh" + two(hedge) + ";");
                    }
                    for (int seed = 0; seed < 400; seed++) {
                        lots(garden.toString(), 1, seed * 7919);
                    }
                }
            });
        s.terms("off ROADS never: how often she is OUT.", "off roads never: one beside another", () -> {
            for (int seed = 0; seed < 50; seed++) {
                lots("kr08;kl02;kr13;kr15;kr20;", 20, seed);
                lots("h00;kr01;kr06;", 20, seed);
            }
        });
    }

    private static String two(int number) {
        return "" + number / 10 + number % 10;
    }

    private void draws() {
        s.terms("(z without its sign's bit by 256, cut) modulo m.",
            "seeds at the ends of the ints, and by lot", () -> {
                for (int seed : new int[] {LEAST, LEAST + 1, -1, 0, 1, 255, 256, 1 << 30, GREATEST - 1, GREATEST}) {
                    lots("kr35;", 20, seed);
                    lots("kr00;kr05;kh13;", 20, seed);
                    lots("kr08;", 1, seed);
                }
            });
        s.terms("A DRAW below m: z becomes z times 1664525 and 1013904223 (an int);",
            "the walks of one call go on from one z", () -> {
                HowFarShesGot x = Due.garden("kr00;kr35;");
                int apart = 0;
                for (int seed = 0; seed < 200; seed++) {
                    apart += x.lots(2, seed) == 2 * x.lots(1, seed) ? 0 : 1;
                }
                s.due("two walks are not one twice", apart > 0 ? 1 : 0, 1);
            });
        s.terms("A DRAW below m: z becomes z times 1664525 and 1013904223 (an int);",
            "the same seed, the same walks", () -> {
                HowFarShesGot x = Due.garden("kr00;kr35;");
                for (int seed = 0; seed < 20; seed++) {
                    s.due("lots(20, " + seed + ") again", x.lots(20, seed), x.lots(20, seed));
                }
            });
    }

    private void promise24Finds() {
        String words = "-2; -3 the ROW has not twos, a SQUARE above 35.";
        s.promise(24, "FINDS by the ROW (it stays): the first pair (what 0; -9), HOMES (1), the least (2; -9).",
            "nothing changes by it, -9 is no refusal", () -> {
                twins.asks(() -> rowIn("", 2, 4), -9, "finds(0)", x -> x.finds(0));
                twins.asks(() -> rowIn("", 2, 4), 5, "finds(1)", x -> x.finds(1));
                twins.asks(() -> rowIn("", 5, 2), 4, "finds(2)", x -> x.finds(2));
                twins.asks(() -> rowIn("", 6, 2), 0, "finds(1)", x -> x.finds(1));
                twins.asks(() -> rowIn("", 6, 2), -9, "finds(2)", x -> x.finds(2));
            });
        s.promise(24, words, "-2: what -1 and 3", () -> {
            for (int what : new int[] {LEAST, -1, 3, GREATEST}) {
                twins.refused(-2, "finds(" + what + ")", x -> x.finds(what));
            }
        });
        s.promise(24, words, "-3: one number, eleven; none and twelve are twos", () -> {
            for (int what = 0; what <= 2; what++) {
                int asked = what;
                twins.refused(() -> rowIn("", 0), -3, "finds", x -> x.finds(asked));
                twins.refused(() -> rowIn("", 0, 0, 0), -3, "finds", x -> x.finds(asked));
                twins.refused(() -> rowIn("", 0, 0, 0, 0, 0, 0, 0, 0, 0, 0, 0), -3, "finds", x -> x.finds(asked));
            }
            twins.asks(() -> rowIn(""), -9, "finds(0)", x -> x.finds(0));
            twins.asks(() -> rowIn("", 0, 0, 0, 0, 0, 0, 0, 0, 0, 0, 0, 0), -9, "finds(0)", x -> x.finds(0));
        });
        s.promise(24, words, "-3: a SQUARE 36 or 99, the first or the sixth; not 35", () -> {
            for (int above : new int[] {36, 99}) {
                for (int what = 0; what <= 2; what++) {
                    int asked = what;
                    twins.refused(() -> rowIn("", above, 0), -3, "finds", x -> x.finds(asked));
                    twins.refused(() -> rowIn("", 0, 0, above, 0), -3, "finds", x -> x.finds(asked));
                    twins.refused(() -> rowIn("", 0, 0, 0, 0, 0, 0, 0, 0, 0, 0, above, 0), -3, "finds",
                        x -> x.finds(asked));
                }
            }
            twins.asks(() -> rowIn("", 35, 99), 0, "finds(0)", x -> x.finds(0));
        });
        s.promise(24, words, "MINUTES above 35 are none", () -> {
            twins.asks(() -> rowIn("", 0, 36), -9, "finds(0)", x -> x.finds(0));
            twins.asks(() -> rowIn("", 0, 99, 0, 99), -9, "finds(0)", x -> x.finds(0));
        });
        s.promise(24, words, "-2 before -3", () -> {
            twins.refused(() -> rowIn("", 0), -2, "finds(3)", x -> x.finds(3));
            twins.refused(() -> rowIn("", 36, 0), -2, "finds(-1)", x -> x.finds(-1));
        });
    }

    private void promise25Row() {
        s.promise(25, "A number more of the ROW (0 .. 99): how many.", "0 and 99, from the 1st to the 12th", () -> {
            HowFarShesGot x = new HowFarShesGot();
            for (int i = 1; i <= 12; i++) {
                s.due("row " + i, x.row(i % 2 == 0 ? 0 : 99), i);
                s.due("count(7)", x.count(7), i);
            }
        });
        s.promise(25, "A number more of the ROW (0 .. 99): how many.", "behind LEFT from the 1st on again", () -> {
            HowFarShesGot x = rowIn("", 1, 2, 3);
            x.behind(0);
            s.due("row", x.row(5), 1);
            s.due("it is that one", x.judge(10), -9);
        });
        s.promise(25, "-4; -6 (99; 12, too).", "-4: -1, when there are 12 too", () -> {
            twins.refused(-4, "row(-1)", x -> x.row(-1));
            twins.refused(-4, "row(least)", x -> x.row(LEAST));
        });
        s.promise(25, "-4; -6 (99; 12, too).", "-6: 100", () -> {
            twins.refused(-6, "row(100)", x -> x.row(100));
            twins.refused(-6, "row(greatest)", x -> x.row(GREATEST));
        });
        s.promise(25, "-4; -6 (99; 12, too).", "-6: the 13th", () -> {
            twins.refused(Twins.FULL, -6, "row 13 of 0", x -> x.row(0));
            twins.refused(Twins.FULL, -6, "row 13 of 99", x -> x.row(99));
            twins.refused(Twins.FULL, -6, "row 13 of 35", x -> x.row(35));
        });
    }

    private void promise26Judge() {
        s.promise(26, "JUDGED; -9 (the ROW stays).", "nothing changes by it, -9 is no refusal", () -> {
            twins.asks(() -> rowIn("", 0, 0), -9, "judge(3)", x -> x.judge(3));
            twins.asks(() -> rowIn("", 0, 0), 1, "judge(2)", x -> x.judge(2));
            twins.asks(Twins.FRESH, -9, "judge(0)", x -> x.judge(0));
            twins.asks(() -> rowIn("", 99), 0, "judge(0)", x -> x.judge(0));
        });
        s.promise(26, "-4; -6 999.", "-4: t -1", () -> {
            twins.refused(-4, "judge(-1)", x -> x.judge(-1));
            twins.refused(-4, "judge(least)", x -> x.judge(LEAST));
        });
        s.promise(26, "-4; -6 999.", "-6: t 1000, not 999", () -> {
            twins.refused(-6, "judge(1000)", x -> x.judge(1000));
            twins.refused(-6, "judge(greatest)", x -> x.judge(GREATEST));
            twins.asks(() -> rowIn("", 5), -9, "judge(999)", x -> x.judge(999));
        });
    }

    private void promise27Behind() {
        s.promise(27, "LEFT (the ROW has none then).", "of none, of one, of twelve", () -> {
            for (int many : new int[] {0, 1, 12}) {
                HowFarShesGot x = Due.corridor("");
                for (int i = 0; i < many; i++) {
                    x.row(0);
                }
                x.behind(0);
                s.due("count(7)", x.count(7), 0);
                s.due("row", x.row(1), 1);
            }
        });
        s.promise(27, "LEFT (the ROW has none then).", "all else stays", () -> {
            HowFarShesGot x = Due.row(toldWithoutRow(), 8, 3, 20, 9);
            x.behind(3);
            twins.alike(x, toldWithoutRow(), 0, "behind LEFT");
        });
        s.promise(27, "-4; -6 999 (it stays).", "-4: t -1", () -> {
            twins.refused(-4, "behind(-1)", x -> x.behind(-1));
            twins.refused(-4, "behind(least)", x -> x.behind(LEAST));
        });
        s.promise(27, "-4; -6 999 (it stays).", "-6: t 1000, not 999", () -> {
            twins.refused(-6, "behind(1000)", x -> x.behind(1000));
            twins.refused(-6, "behind(greatest)", x -> x.behind(GREATEST));
            s.due("behind(999)", rowIn("", 0).behind(999), 6);
        });
    }

    private static HowFarShesGot toldWithoutRow() {
        HowFarShesGot x = Due.garden("vh0005;kg07;kr35;h20;p3;w7;sn01;");
        x.image();
        x.set(0, 21);
        x.steps(36);
        return Due.letters(x, "kb06;");
    }

    private void promise28Lots() {
        s.promise(28, "LOTS. -4; -6 20.", "-4: 0 walks, not 1", () -> {
            twins.refused(-4, "lots(0, 0)", x -> x.lots(0, 0));
            twins.refused(-4, "lots(-1, 7)", x -> x.lots(-1, 7));
            twins.refused(-4, "lots(least, -1)", x -> x.lots(LEAST, -1));
            twins.asks(() -> Due.garden("kr14;"), 1, "lots(1, -1)", x -> x.lots(1, -1));
        });
        s.promise(28, "LOTS. -4; -6 20.", "-6: 21 walks, not 20", () -> {
            twins.refused(-6, "lots(21, 0)", x -> x.lots(21, 0));
            twins.refused(-6, "lots(greatest, -1)", x -> x.lots(GREATEST, -1));
            twins.asks(() -> Due.garden("kr14;"), 20, "lots(20, greatest)", x -> x.lots(20, GREATEST));
        });
    }
}
