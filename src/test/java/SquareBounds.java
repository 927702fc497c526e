/** Squares, their kinds, HOME, PACE, WARM and seekers: the Terms' first lines, promises 1 and 4 to 8. */
final class SquareBounds {
    private static final int LEAST = Integer.MIN_VALUE;
    private static final int GREATEST = Integer.MAX_VALUE;
    private static final String KINDS = "lhgsbr";

    private final Sentences s;
    private final Twins twins;

    SquareBounds(Sentences sentences) {
        s = sentences;
        twins = new Twins(sentences);
    }

    void all() {
        squares();
        kinds();
        kindsAsAbove();
        homePaceWarm();
        seekers();
        promise1NewObject();
        promise4Square();
        promise5TurnTo();
        promise6Set();
        promise7Seeker();
        promise8Stand();
    }

    private static int apart(int one, int other) {
        return Math.abs(one / 6 - other / 6) + Math.abs(one % 6 - other % 6);
    }

    private static HowFarShesGot lawnFrom(int home) {
        HowFarShesGot x = new HowFarShesGot();
        x.set(0, home);
        return x;
    }

    private void squares() {
        s.terms("SQUARES 0 .. 35", "0 and 35 are squares for every call that is told one", () -> {
            HowFarShesGot x = Due.garden("sf07;");
            s.due("square(0, 1)", x.square(0, 1), 1);
            s.due("square(35, 1)", x.square(35, 1), 1);
            s.due("turnTo(0, 2)", x.turnTo(0, 2), 0);
            s.due("turnTo(35, 2)", x.turnTo(35, 2), 0);
            s.due("set(0, 0)", x.set(0, 0), 14);
            s.due("set(0, 35)", x.set(0, 35), 0);
            s.due("stand(0, 0)", x.stand(0, 0), 7);
            s.due("stand(0, 35)", x.stand(0, 35), 0);
            s.due("steps(0)", x.steps(0), 10);
            s.due("steps(35)", x.steps(35), 0);
            s.due("mayBe(0, 0)", x.mayBe(0, 0), 0);
            s.due("mayBe(0, 35)", x.mayBe(0, 35), 1);
            s.due("ways(0, 0)", x.ways(0, 0), 0);
            s.due("ways(0, 35)", x.ways(0, 35), 1);
            s.due("likely(0, 0, 0)", x.likely(0, 0, 0), 0);
            s.due("likely(0, 35, 0)", x.likely(0, 35, 0), 1);
        });
        s.terms("SQUARES 0 .. 35", "-1 and 36 are none for every call that is told one", () -> {
            for (int square : new int[] {-1, 36}) {
                HowFarShesGot x = Due.garden("sf07;");
                s.due("square", x.square(square, 0), -1);
                s.due("turnTo", x.turnTo(square, 0), -1);
                s.due("set", x.set(0, square), -1);
                s.due("stand", x.stand(0, square), -1);
                s.due("steps", x.steps(square), -1);
                s.due("ways", x.ways(0, square), 4000000000000000001L);
                s.due("likely", x.likely(0, square, 0), 4000000000000000001L);
            }
            s.due("mayBe(0, 36)", new HowFarShesGot().mayBe(0, 36), -1);
        });
        s.terms("SQUARES 0 .. 35", "on a garden of lawn she can be on all 36 in the end", () ->
            s.due("mayBe(999, -1)", new HowFarShesGot().mayBe(999, -1), 36));
        s.terms("row SQUARE by 6, column SQUARE modulo 6", "steps on lawn are rows and columns apart", () -> {
            for (int home = 0; home < 36; home++) {
                HowFarShesGot x = lawnFrom(home);
                for (int square = 0; square < 36; square++) {
                    s.due("from " + home + " steps(" + square + ")", x.steps(square), apart(home, square));
                }
            }
        });
        beside();
    }

    private void beside() {
        String words = "beside one: up, left, right, down in the garden";
        s.terms(words, "the last of a row is not beside the first of the next: ways", () -> {
            for (int home = 0; home < 36; home++) {
                HowFarShesGot x = lawnFrom(home);
                for (int square = 0; square < 36; square++) {
                    s.due("from " + home + " ways(1, " + square + ")", x.ways(1, square),
                        apart(home, square) <= 1 ? 1 : 0);
                }
            }
        });
        s.terms(words, "there is nothing beyond the garden's edges: turning", () -> {
            int[] rows = {-1, 0, 1, 0};
            int[] columns = {0, -1, 0, 1};
            for (int home = 0; home < 36; home++) {
                HowFarShesGot x = lawnFrom(home);
                for (int facing = 0; facing < 4; facing++) {
                    int row = home / 6 + rows[facing];
                    int column = home % 6 + columns[facing];
                    boolean inside = row >= 0 && row < 6 && column >= 0 && column < 6;
                    s.due("from " + home + " turning(" + facing + ", 1)", x.turning(facing, 1),
                        inside ? 6 * row + column : home);
                }
            }
        });
        s.terms(words, "a search's set does not come over an edge", () -> {
            for (int last = 5; last < 35; last += 6) {
                HowFarShesGot x = Due.garden("p1;sf00;");
                x.set(0, last);
                closeAllBut(x, last, last + 1);
                s.due("may be beside " + last, x.mayBe(999, -1), 1);
                s.due("behind the look at " + last, x.left(0, 1, 1), 0);
                x.set(0, last + 1);
                s.due("may be beside " + (last + 1), x.mayBe(999, -1), 1);
                s.due("ever", x.hold(1), 1);
            }
        });
        s.terms(words, "walks by lot do not come over an edge", () -> {
            for (int last = 5; last < 35; last += 6) {
                HowFarShesGot x = lawnFrom(last);
                closeAllBut(x, last, last + 1);
                x.turnTo(last + 1, 5);
                s.due("lots right of " + last, x.lots(20, 1), 0);
                x = lawnFrom(last + 1);
                closeAllBut(x, last, last + 1);
                x.turnTo(last, 5);
                s.due("lots left of " + (last + 1), x.lots(20, 1), 0);
            }
        });
        s.terms(words, "what a seeker of kind m or e counts beside one does not lie over an edge", () -> {
            s.due("most beside", Due.garden("p9;sm00;").looksAt(0, 81, 0), 7);
            // A way 5 4 3 9 8 7 6, whose ends are beside each other by number alone.
            s.due("fewest beside", Due.garden("h04;vh0002;vh1035;p9;se00;").looksAt(0, 81, 0), 5);
        });
    }

    private static void closeAllBut(HowFarShesGot x, int one, int other) {
        for (int square = 0; square < 36; square++) {
            if (square != one && square != other) {
                x.turnTo(square, 1);
            }
        }
    }

    private void kinds() {
        s.terms("KINDS of SQUARES (l at first)", "each of the 36 is lawn", () -> {
            HowFarShesGot x = new HowFarShesGot();
            for (int square = 0; square < 36; square++) {
                s.due("square(" + square + ", 0)", x.square(square, 0), 0);
            }
        });
        s.terms("KINDS of SQUARES, whether she can be there, in how many STEPS she goes off it",
            "a kind comes on one square alone", () -> {
                for (int kind = 0; kind < 6; kind++) {
                    HowFarShesGot x = new HowFarShesGot();
                    x.turnTo(7, kind);
                    for (int square = 0; square < 36; square++) {
                        s.due("kind of " + square, x.square(square, 0), square == 7 ? kind : 0);
                    }
                }
            });
        s.terms("l LAWN: she can; 1.", "at every WARM", () -> kind(0, 1, 1, 1, 1, 1, 1, 1, 1, 1, 1, 1));
        s.terms("h HEDGE under LAWN: she can not.", "and goes off it in none", () ->
            kind(1, 0, 0, 0, 0, 0, 0, 0, 0, 0, 0, 0));
        s.terms("g GAP under LAWN: unless it is SHUT.", "as lawn, where it is not SHUT", () -> {
            kind(2, 1, 1, 1, 1, 1, 1, 1, 1, 1, 1, 1);
            s.due("on", Due.corridor("kg02;").steps(3), 3);
            s.due("SHUT", Due.corridor("kg02;kr03;").shut(), 1);
        });
        s.terms("s SUN under LAWN: 1 more for each 3 of WARM, cut (she basks).",
            "at WARM 2 and 3, 5 and 6, 8 and 9", () -> kind(3, 1, 1, 1, 1, 2, 2, 2, 3, 3, 3, 4));
        s.terms("b BED under SUN: as a LAWN, 1 more (she eats).", "whatever WARM is", () ->
            kind(4, 1, 2, 2, 2, 2, 2, 2, 2, 2, 2, 2));
        s.terms("r ROAD under GAP: as a LAWN; she does not come off it any more (she is OUT).",
            "she can be there, and goes off it in none", () -> kind(5, 1, 0, 0, 0, 0, 0, 0, 0, 0, 0, 0));
        s.terms("r ROAD under GAP: as a LAWN; she does not come off it any more (she is OUT).",
            "what is beyond it she never comes to", () -> {
                HowFarShesGot x = Due.corridor("kr02;sf00;");
                s.due("steps onto it", x.steps(2), 2);
                s.due("steps off it", x.steps(3), -9);
                s.due("may be", x.mayBe(999, -1), 3);
                s.due("ever", x.hold(1), 3);
                s.due("ways onto it", x.ways(2, 2), 1);
                s.due("ways off it", x.ways(20, 3), 0);
                s.due("turning onto it", x.turning(3, 99), 2);
                s.due("out", x.out(0), 4);
            });
    }

    private void kindsAsAbove() {
        s.terms("Where it is not told as above them.",
            "a gap's STEPS are a lawn's; suns and beds she can be on", () -> {
                HowFarShesGot x = Due.garden("kg00;ks01;kb02;w9;");
                s.due("STEPS off a gap", x.square(0, 2), 1);
                s.due("on a gap", x.square(0, 1), 1);
                s.due("on a sun", x.square(1, 1), 1);
                s.due("on a bed", x.square(2, 1), 1);
            });
        s.terms("Where it is not told as above them.", "suns, beds and roads are not SHUT as gaps are", () ->
            s.due("shut()", Due.corridor("ks01;kb02;kr03;").shut(), -9));
    }

    /** Whether she can be on a kind, and in how many steps she goes off it at WARM 0 .. 9. */
    private void kind(int kind, int canBe, int... off) {
        HowFarShesGot x = new HowFarShesGot();
        x.turnTo(35, kind);
        s.due("she can be on " + KINDS.charAt(kind), x.square(35, 1), canBe);
        for (int warm = 0; warm <= 9; warm++) {
            x.set(2, warm);
            s.due("steps off " + KINDS.charAt(kind) + " at " + warm, x.square(35, 2), off[warm]);
        }
    }

    private void homePaceWarm() {
        s.terms("HOME (a SQUARE that is not shut; 14 at first)", "14 at first", () -> {
            HowFarShesGot x = new HowFarShesGot();
            s.due("count(0)", x.count(0), 14);
            s.due("steps(14)", x.steps(14), 0);
            s.due("steps(13)", x.steps(13), 1);
        });
        s.terms("HOME (a SQUARE that is not shut; 14 at first)", "any kind but a hedge", () -> {
            for (int kind = 0; kind < 6; kind++) {
                HowFarShesGot x = new HowFarShesGot();
                x.turnTo(35, kind);
                s.due("set(0, 35) on " + KINDS.charAt(kind), x.set(0, 35), kind == 1 ? -3 : 14);
                s.due("HOME", x.count(0), kind == 1 ? 14 : 35);
            }
        });
        s.terms("PACE (1 .. 9 MINUTES a STEP: 2 at first)", "2 at first", () -> {
            HowFarShesGot x = new HowFarShesGot();
            s.due("count(1)", x.count(1), 2);
            s.due("at minute 1", x.mayBe(1, -1), 1);
            s.due("at minute 2", x.mayBe(2, -1), 5);
        });
        s.terms("PACE (1 .. 9 MINUTES a STEP: 2 at first)", "1 and 9 are it, 0 and 10 never", () -> {
            HowFarShesGot x = Due.corridor("kr05;");
            s.due("set(1, 1)", x.set(1, 1), 2);
            s.due("out at 1", x.out(0), 5);
            s.due("set(1, 0)", x.set(1, 0), -4);
            s.due("set(1, 9)", x.set(1, 9), 1);
            s.due("out at 9", x.out(0), 45);
            s.due("set(1, 10)", x.set(1, 10), -6);
            s.due("p0", Due.tell(x, "p0;"), -2000);
            s.due("out at 9 still", x.out(0), 45);
        });
        s.terms("WARM (0 .. 9: 5 at first)", "5 at first", () -> {
            HowFarShesGot x = Due.garden("ks35;");
            s.due("count(2)", x.count(2), 5);
            s.due("off the sun", x.square(35, 2), 2);
        });
        s.terms("WARM (0 .. 9: 5 at first)", "0 and 9 are it, -1 and 10 never", () -> {
            HowFarShesGot x = Due.garden("ks35;");
            s.due("set(2, 0)", x.set(2, 0), 5);
            s.due("off the sun at 0", x.square(35, 2), 1);
            s.due("set(2, -1)", x.set(2, -1), -4);
            s.due("set(2, 9)", x.set(2, 9), 0);
            s.due("off the sun at 9", x.square(35, 2), 4);
            s.due("set(2, 10)", x.set(2, 10), -6);
            s.due("WARM", x.count(2), 9);
        });
    }

    private void seekers() {
        String words = "SEEKERS 0 .. 2 as they come (3 at most): KIND, SQUARE";
        s.terms(words, "the first is 0, the third is 2", () -> {
            HowFarShesGot x = Due.garden("sa35;se00;");
            Due.tell(x, "sn07;");
            s.due("kind of 0", x.seeker(0, 0), 4);
            s.due("square of 0", x.seeker(0, 1), 35);
            s.due("kind of 1", x.seeker(1, 0), 3);
            s.due("square of 1", x.seeker(1, 1), 0);
            s.due("kind of 2", x.seeker(2, 0), 1);
            s.due("square of 2", x.seeker(2, 1), 7);
            s.due("how many", x.count(3), 3);
        });
        s.terms(words, "a fourth never comes", () -> {
            HowFarShesGot x = Due.garden("sa35;se00;sn07;");
            s.due("a fourth", Due.tell(x, "sf01;"), -2000);
            s.due("how many", x.count(3), 3);
            s.due("seeker(3, 0)", x.seeker(3, 0), -1);
        });
    }

    private void promise1NewObject() {
        s.promise(1, "All lawn", "she can be on each square, and goes off it in 1", () -> {
            HowFarShesGot x = new HowFarShesGot();
            for (int square = 0; square < 36; square++) {
                s.due("square(" + square + ", 0)", x.square(square, 0), 0);
                s.due("square(" + square + ", 1)", x.square(square, 1), 1);
                s.due("square(" + square + ", 2)", x.square(square, 2), 1);
            }
            s.due("hedges, gaps and roads", x.count(4) + x.count(5) + x.count(6), 0);
        });
        s.promise(1, "HOME 14", "and no other", () -> s.due("count(0)", new HowFarShesGot().count(0), 14));
        s.promise(1, "no SEEKERS", "not even 0", () -> {
            HowFarShesGot x = new HowFarShesGot();
            s.due("count(3)", x.count(3), 0);
            s.due("seeker(0, 0)", x.seeker(0, 0), -1);
            s.due("together(0)", x.together(0), -3);
        });
        s.promise(1, "All lawn, HOME 14, no SEEKERS.", "and nothing else: row, letters, image, refusals", () -> {
            HowFarShesGot x = new HowFarShesGot();
            s.due("in the row", x.count(7), 0);
            s.due("letters", x.count(8), 0);
            for (int what = 11; what <= 16; what++) {
                s.due("count(" + what + ")", x.count(what), 0);
            }
            s.due("on()", x.on(), -3);
        });
        s.promise(1, "All lawn, HOME 14, no SEEKERS.", "another object's calls are nothing to it", () -> {
            HowFarShesGot x = new HowFarShesGot();
            HowFarShesGot y = new HowFarShesGot();
            Due.tell(x, "vh1535;sf00;h01;p9;w9;");
            Due.row(x, 1, 2);
            Due.letters(x, "k");
            x.image();
            x.square(36, 0);
            twins.alike(y, new HowFarShesGot(), 0, "behind another's calls");
        });
    }

    private void promise4Square() {
        s.promise(4, "0 KIND (0 l, 1 h, 2 g, 3 s, 4 b, 5 r)", "from 0 to 5", () -> {
            HowFarShesGot x = Due.garden("kl00;kh01;kg02;ks03;kb04;kr35;");
            int[] kinds = {0, 1, 2, 3, 4, 0};
            for (int square = 0; square < kinds.length; square++) {
                s.due("square(" + square + ", 0)", x.square(square, 0), kinds[square]);
            }
            s.due("square(35, 0)", x.square(35, 0), 5);
        });
        s.promise(4, "1 whether she can be there", "not on a hedge alone, but on what she never comes to", () -> {
            HowFarShesGot x = Due.corridor("kg01;kr02;ks03;kb04;kl35;");
            for (int square = 0; square < 36; square++) {
                s.due("square(" + square + ", 1)", x.square(square, 1), square < 6 || square == 35 ? 1 : 0);
            }
        });
        s.promise(4, "2 STEPS off it (0 she does not come off, or can not be there)", "a road, a hedge", () -> {
            HowFarShesGot x = Due.garden("kh00;kr35;w9;ks01;");
            s.due("off a hedge", x.square(0, 2), 0);
            s.due("off a road", x.square(35, 2), 0);
            s.due("off the sun", x.square(1, 2), 4);
            s.due("off lawn", x.square(2, 2), 1);
        });
        s.promise(4, "-1; -2.", "-1: squares -1 and 36", () -> {
            for (int square : new int[] {LEAST, -1, 36, GREATEST}) {
                for (int what = 0; what <= 2; what++) {
                    int asked = what;
                    twins.refused(-1, "square(" + square + ", " + what + ")", x -> x.square(square, asked));
                }
            }
        });
        s.promise(4, "-1; -2.", "-2: what -1 and 3", () -> {
            for (int what : new int[] {LEAST, -1, 3, GREATEST}) {
                twins.refused(-2, "square(0, " + what + ")", x -> x.square(0, what));
                twins.refused(-2, "square(35, " + what + ")", x -> x.square(35, what));
            }
        });
        s.promise(4, "-1; -2.", "-1 before -2", () -> {
            twins.refused(-1, "square(36, 3)", x -> x.square(36, 3));
            twins.refused(-1, "square(-1, -1)", x -> x.square(-1, -1));
        });
        s.promise(4, "Of a SQUARE", "nothing changes by it", () -> {
            twins.asks(Twins.RICH, 5, "square(11, 0)", x -> x.square(11, 0));
            twins.asks(Twins.RICH, 1, "square(8, 2)", x -> x.square(8, 2));
        });
    }

    private void promise5TurnTo() {
        s.promise(5, "KIND becomes another one: what it was.", "each kind from each, its own too", () -> {
            for (int was = 0; was < 6; was++) {
                HowFarShesGot x = new HowFarShesGot();
                for (int kind = 0; kind < 6; kind++) {
                    x.turnTo(35, was);
                    s.due("turnTo(35, " + kind + ")", x.turnTo(35, kind), was);
                    s.due("it is", x.square(35, 0), kind);
                }
            }
        });
        s.promise(5, "KIND becomes another one: what it was.", "squares 0 and 35, and those beside stay", () -> {
            HowFarShesGot x = new HowFarShesGot();
            s.due("turnTo(0, 1)", x.turnTo(0, 1), 0);
            s.due("turnTo(35, 5)", x.turnTo(35, 5), 0);
            for (int square = 1; square < 35; square++) {
                s.due("square(" + square + ", 0)", x.square(square, 0), 0);
            }
            s.due("square(0, 0)", x.square(0, 0), 1);
            s.due("square(35, 0)", x.square(35, 0), 5);
        });
        s.promise(5, "-1; -2; -3 HOME would be shut.", "-1: squares -1 and 36", () -> {
            for (int square : new int[] {LEAST, -1, 36, GREATEST}) {
                twins.refused(-1, "turnTo(" + square + ", 2)", x -> x.turnTo(square, 2));
            }
        });
        s.promise(5, "-1; -2; -3 HOME would be shut.", "-2: kinds -1 and 6", () -> {
            for (int kind : new int[] {LEAST, -1, 6, GREATEST}) {
                twins.refused(-2, "turnTo(0, " + kind + ")", x -> x.turnTo(0, kind));
            }
        });
        s.promise(5, "-1; -2; -3 HOME would be shut.", "-3: HOME to a hedge, wherever HOME is", () -> {
            twins.refused(Twins.FRESH, -3, "turnTo(14, 1)", x -> x.turnTo(14, 1));
            twins.refused(Twins.RICH, -3, "turnTo(21, 1)", x -> x.turnTo(21, 1));
            twins.refused(Twins.FULL, -3, "turnTo(21, 1)", x -> x.turnTo(21, 1));
            for (int home = 0; home < 36; home++) {
                HowFarShesGot x = lawnFrom(home);
                s.due("turnTo(" + home + ", 1)", x.turnTo(home, 1), -3);
                int other = (home + 1) % 36;
                s.due("turnTo(" + other + ", 1)", x.turnTo(other, 1), 0);
                s.due("hedges", x.count(4), 1);
            }
        });
        s.promise(5, "-1; -2; -3 HOME would be shut.", "HOME becomes any other kind", () -> {
            for (int kind = 0; kind < 6; kind++) {
                HowFarShesGot x = new HowFarShesGot();
                s.due("turnTo(14, " + kind + ")", x.turnTo(14, kind), kind == 1 ? -3 : 0);
                s.due("square(14, 0)", x.square(14, 0), kind == 1 ? 0 : kind);
                s.due("she is there", x.mayBe(0, 14), 1);
            }
        });
        s.promise(5, "-1; -2; -3 HOME would be shut.", "-1 before -2 before -3", () -> {
            twins.refused(-1, "turnTo(36, 6)", x -> x.turnTo(36, 6));
            twins.refused(-1, "turnTo(-1, -1)", x -> x.turnTo(-1, -1));
            twins.refused(Twins.FRESH, -2, "turnTo(14, 6)", x -> x.turnTo(14, 6));
            twins.refused(Twins.FRESH, -2, "turnTo(14, -1)", x -> x.turnTo(14, -1));
        });
    }

    private void promise6Set() {
        s.promise(6, "HOME (what 0), PACE (1), WARM (2) becomes v: what it was.",
            "least and greatest of each", () -> {
                HowFarShesGot x = new HowFarShesGot();
                int[][] calls = {{0, 0, 14}, {0, 35, 0}, {0, 35, 35}, {1, 1, 2}, {1, 9, 1}, {1, 9, 9}, {2, 0, 5},
                    {2, 9, 0}, {2, 9, 9}};
                for (int[] call : calls) {
                    s.due("set(" + call[0] + ", " + call[1] + ")", x.set(call[0], call[1]), call[2]);
                    s.due("count(" + call[0] + ")", x.count(call[0]), call[1]);
                }
            });
        s.promise(6, "HOME (what 0), PACE (1), WARM (2) becomes v: what it was.", "the two others stay", () -> {
            for (int what = 0; what < 3; what++) {
                HowFarShesGot x = new HowFarShesGot();
                x.set(what, 8);
                s.due("HOME", x.count(0), what == 0 ? 8 : 14);
                s.due("PACE", x.count(1), what == 1 ? 8 : 2);
                s.due("WARM", x.count(2), what == 2 ? 8 : 5);
            }
        });
        s.promise(6, "-2; -1 no SQUARE; -4;", "-2: what -1 and 3", () -> {
            for (int what : new int[] {LEAST, -1, 3, GREATEST}) {
                twins.refused(-2, "set(" + what + ", 1)", x -> x.set(what, 1));
            }
        });
        s.promise(6, "-2; -1 no SQUARE; -4;", "-1: HOME -1 and 36", () -> {
            for (int square : new int[] {LEAST, -1, 36, GREATEST}) {
                twins.refused(-1, "set(0, " + square + ")", x -> x.set(0, square));
            }
        });
        s.promise(6, "-2; -1 no SQUARE; -4;", "-4: PACE 0, WARM -1", () -> {
            twins.refused(-4, "set(1, 0)", x -> x.set(1, 0));
            twins.refused(-4, "set(1, -1)", x -> x.set(1, -1));
            twins.refused(-4, "set(1, least)", x -> x.set(1, LEAST));
            twins.refused(-4, "set(2, -1)", x -> x.set(2, -1));
            twins.refused(-4, "set(2, least)", x -> x.set(2, LEAST));
        });
        s.promise(6, "-6 (9; 9)", "PACE 10, WARM 10", () -> {
            for (int v : new int[] {10, 35, GREATEST}) {
                twins.refused(-6, "set(1, " + v + ")", x -> x.set(1, v));
                twins.refused(-6, "set(2, " + v + ")", x -> x.set(2, v));
            }
        });
        s.promise(6, "-3 she can not be there.", "a hedge; HOME stays", () -> {
            twins.refused(Twins.RICH, -3, "set(0, 0)", x -> x.set(0, 0));
            twins.refused(Twins.FULL, -3, "set(0, 5)", x -> x.set(0, 5));
        });
        s.promise(6, "-2; -1 no SQUARE; -4;", "-2 before all others", () -> {
            twins.refused(-2, "set(3, -1)", x -> x.set(3, -1));
            twins.refused(-2, "set(3, 36)", x -> x.set(3, 36));
            twins.refused(-2, "set(-1, 0)", x -> x.set(-1, 0));
        });
    }

    private void promise7Seeker() {
        s.promise(7, "0 KIND (0 f, 1 n, 2 m, 3 e, 4 a)", "from 0 to 4", () -> {
            for (int kind = 0; kind < 5; kind++) {
                HowFarShesGot x = Due.garden("s" + "fnmea".charAt(kind) + "35;");
                s.due("seeker(0, 0)", x.seeker(0, 0), kind);
            }
        });
        s.promise(7, "1 SQUARE.", "0 and 35", () -> {
            HowFarShesGot x = Due.garden("sf00;sf35;");
            s.due("seeker(0, 1)", x.seeker(0, 1), 0);
            s.due("seeker(1, 1)", x.seeker(1, 1), 35);
        });
        s.promise(7, "-1; -2.", "-1: seeker -1, and as many as there are", () -> {
            for (int seeker : new int[] {LEAST, -1, 3, GREATEST}) {
                twins.refused(-1, "seeker(" + seeker + ", 0)", x -> x.seeker(seeker, 0));
            }
            twins.refused(Twins.FRESH, -1, "seeker(0, 0)", x -> x.seeker(0, 0));
            twins.refused(Twins.RICH, -1, "seeker(2, 0)", x -> x.seeker(2, 0));
            twins.asks(Twins.RICH, 2, "seeker(1, 0)", x -> x.seeker(1, 0));
            twins.asks(Twins.FULL, 4, "seeker(2, 0)", x -> x.seeker(2, 0));
        });
        s.promise(7, "-1; -2.", "-2: what -1 and 2", () -> {
            for (int what : new int[] {LEAST, -1, 2, GREATEST}) {
                twins.refused(Twins.RICH, -2, "seeker(1, " + what + ")", x -> x.seeker(1, what));
                twins.refused(Twins.FULL, -2, "seeker(2, " + what + ")", x -> x.seeker(2, what));
            }
        });
        s.promise(7, "-1; -2.", "-1 before -2", () -> {
            twins.refused(-1, "seeker(3, 2)", x -> x.seeker(3, 2));
            twins.refused(Twins.FRESH, -1, "seeker(0, -1)", x -> x.seeker(0, -1));
        });
    }

    private void promise8Stand() {
        s.promise(8, "He stands on a SQUARE: where he stood.",
            "on 0, on 35, on a hedge, where he stood already", () -> {
                HowFarShesGot x = Due.garden("kh07;sf03;sn04;se05;");
                s.due("stand(2, 35)", x.stand(2, 35), 5);
                s.due("stand(2, 0)", x.stand(2, 0), 35);
                s.due("stand(2, 7)", x.stand(2, 7), 0);
                s.due("stand(2, 7) again", x.stand(2, 7), 7);
                s.due("he stands there", x.seeker(2, 1), 7);
                s.due("he is of the kind he was", x.seeker(2, 0), 3);
                s.due("0 stays", x.seeker(0, 1), 3);
                s.due("1 stays", x.seeker(1, 1), 4);
            });
        s.promise(8, "-1 either.", "no such seeker", () -> {
            for (int seeker : new int[] {LEAST, -1, 3, GREATEST}) {
                twins.refused(-1, "stand(" + seeker + ", 0)", x -> x.stand(seeker, 0));
            }
            twins.refused(Twins.FRESH, -1, "stand(0, 0)", x -> x.stand(0, 0));
            twins.refused(Twins.RICH, -1, "stand(2, 0)", x -> x.stand(2, 0));
        });
        s.promise(8, "-1 either.", "no such square", () -> {
            for (int square : new int[] {LEAST, -1, 36, GREATEST}) {
                twins.refused(Twins.RICH, -1, "stand(0, " + square + ")", x -> x.stand(0, square));
                twins.refused(Twins.FULL, -1, "stand(2, " + square + ")", x -> x.stand(2, square));
            }
        });
        s.promise(8, "-1 either.", "neither: counted once", () ->
            twins.refused(-1, "stand(3, 36)", x -> x.stand(3, 36)));
    }
}
