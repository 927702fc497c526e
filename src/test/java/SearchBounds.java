import java.util.function.IntFunction;

/** SEARCH, the KINDS of SEEKERS, BEST SEEKER and ALL SEEKERS: promises 14 to 18. */
final class SearchBounds {
    private static final int LEAST = Integer.MIN_VALUE;
    private static final int GREATEST = Integer.MAX_VALUE;
    /** At minute 9 she may be on 14 and the four beside it, for nine looks. */
    private static final String CROSS = "p9;";
    /** Two blocks and a way between them, 1 2 3, which EDGE looks at first. */
    private static final String BLOCKS = "h06;kh00;vh0405;kh08;kh11;kh14;vh1735;p9;se35;";

    private final Sentences s;
    private final Twins twins;

    SearchBounds(Sentences sentences) {
        s = sentences;
        twins = new Twins(sentences);
    }

    void all() {
        searches();
        first();
        near();
        most();
        edge();
        ahead();
        searchByOne();
        bestSeeker();
        allSeekers();
        promise14Search();
        promise15Left();
        promise16LooksAt();
        promise17BestSeeker();
        promise18Together();
    }

    private void sizes(String name, HowFarShesGot x, int t, int... due) {
        for (int n = 0; n < due.length; n++) {
            s.due(name + ": left(0, " + t + ", " + n + ")", x.left(0, t, n), due[n]);
        }
    }

    private void looks(String garden, int t, int... squares) {
        HowFarShesGot x = Due.garden(garden);
        for (int i = 0; i < squares.length; i++) {
            s.due(garden + " looksAt(0, " + t + ", " + i + ")", x.looksAt(0, t, i), squares[i]);
        }
    }

    private void searches() {
        s.terms("A SEARCH goes by looks, one a MINUTE, from MINUTE t on",
            "the step is at minute 27, from each t", () -> {
                HowFarShesGot x = Due.corridor("p9;sf00;");
                sizes("three looks ahead of it", x, 24, 3, 2, 1, 0, 0);
                sizes("two looks ahead of it", x, 25, 3, 2, 3, 2, 1, 0);
                sizes("one look ahead of it", x, 26, 3, 4, 3, 2, 1, 0);
                sizes("it has been", x, 27, 4, 3, 2, 1, 0);
            });
        s.terms("by a SET of SQUARES: at first MAY BE at t", "at 0, at 999 and between", () -> {
            HowFarShesGot x = Due.garden("kh15;kr20;ks08;sf00;");
            for (int t = 0; t < 40; t++) {
                s.due("left(0, " + t + ", 0)", x.left(0, t, 0), x.mayBe(t, -1));
            }
            s.due("left(0, 999, 0)", x.left(0, 999, 0), x.mayBe(999, -1));
        });
        s.terms("a look takes its SQUARE out", "the last one too: the set is empty and stays so", () -> {
            sizes("alone", Due.corridor("sf00;"), 0, 1, 0, 0, 0);
            sizes("five", Due.garden("p9;sf00;"), 9, 5, 4, 3, 2, 1, 0, 0);
        });
        s.terms("then MINUTE is 1 more, and if PACE divides it", "each PACE, at each minute from 72 on", () -> {
            for (int pace = 1; pace <= 9; pace++) {
                HowFarShesGot x = Due.garden("sf00;p" + pace + ";");
                for (int t = 72; t <= 150; t++) {
                    s.due("PACE " + pace + ": left(0, " + t + ", 1)", x.left(0, t, 1), (t + 1) % pace == 0 ? 36 : 35);
                }
                s.due("PACE " + pace + ": left(0, 999, 1)", x.left(0, 999, 1), 1000 % pace == 0 ? 36 : 35);
                s.due("PACE " + pace + ": left(0, 998, 1)", x.left(0, 998, 1), 999 % pace == 0 ? 36 : 35);
            }
        });
        s.terms("then MINUTE is 1 more, and if PACE divides it",
            "at minute 0 there is no step ahead of the look", () ->
                sizes("p1", Due.garden("p1;sf00;"), 0, 1, 0, 0));
        spreading();
    }

    private void spreading() {
        String words = "all SQUARES beside one of the SET (that is no ROAD) on which she can be come into it.";
        s.terms(words, "none beside a road", () -> {
            sizes("a road alone", Due.corridor("kr01;sf00;"), 3, 2, 1, 0);
            sizes("a road that is HOME", Due.garden("kr14;sf00;p1;"), 999, 1, 0);
            sizes("four roads round HOME", Due.garden("kr08;kr13;kr15;kr20;sm00;p1;"), 2, 5, 4, 3, 2, 1, 0);
        });
        s.terms(words, "a road itself comes into it", () ->
            sizes("lawn, lawn, road", Due.corridor("kr02;sf00;p1;"), 1, 2, 3, 3));
        s.terms(words, "no hedge", () -> {
            sizes("a hedge on each side", Due.corridor("kh01;sf00;p1;"), 99, 1, 0, 0);
            sizes("a hedge ahead", Due.corridor("kh02;sf00;p1;"), 1, 2, 2, 2);
        });
        s.terms(words, "gaps, suns and beds in one STEP", () ->
            sizes("slow ones", Due.corridor("w9;ks01;kb02;kg03;sf00;p1;"), 1, 2, 3, 4, 5, 6, 6));
        s.terms(words, "up, left, right and down, a step far", () ->
            sizes("8 is looked at, the other four step", Due.garden("sn08;p5;"), 9, 5, 12));
    }

    private void first() {
        String words = "f FIRST: the least.";
        s.terms(words, "of five; 0; 35", () -> {
            looks(CROSS + "sf35;", 9, 8, 13, 14, 15, 20, -9);
            looks("h00;p9;sf35;", 9, 0, 1, 6, -9);
            looks("h35;p9;sf00;", 9, 29, 34, 35, -9);
        });
    }

    private void near() {
        s.terms("the one nearest to where he stands (rows and columns apart together)",
            "rows and columns together", () -> {
                looks("p9;h14;kh13;kh20;kh15;sn18;", 9, 14, 8, -9);
                looks("p9;h14;kh13;kh20;kh15;sn02;", 9, 8, 14, -9);
            });
        s.terms("of several the least; he stands there then.", "of several the least", () -> {
            looks(CROSS + "sn14;", 9, 14, 8, 13, 15, 20, -9);
            looks(CROSS + "sn35;", 9, 15, 14, 8, 13, 20, -9);
        });
        s.terms("of several the least; he stands there then.", "he looks on from where he looked", () ->
            looks(Due.CORRIDOR + "p9;sn02;", 36, 2, 1, 0, 3, 4, -9));
        s.terms("the one nearest to where he stands (rows and columns apart together)",
            "where he is himself is nearest; from corner to corner is ten", () -> {
                looks("h00;p9;sn00;", 9, 0, 1, 6, -9);
                looks("h00;sn35;", 0, 0, -9);
                looks("h35;sn00;", 0, 35, -9);
                looks("h05;sn30;", 0, 5, -9);
                looks("h30;sn05;", 0, 30, -9);
            });
        s.terms("the one nearest to where he stands (rows and columns apart together)",
            "each search begins where he stands, and leaves him there", () -> {
                HowFarShesGot x = Due.corridor("p9;sn02;");
                for (int i = 0; i < 3; i++) {
                    s.due("search(0, 36)", x.search(0, 36), 5);
                    s.due("looksAt(0, 36, 0)", x.looksAt(0, 36, 0), 2);
                    s.due("seeker(0, 1)", x.seeker(0, 1), 2);
                }
            });
    }

    private void most() {
        String most = "m MOST under FIRST: the one with the most SQUARES of the set beside it";
        s.terms(most, "four before one; when none has, the least", () ->
            looks(CROSS + "sm35;", 9, 14, 8, 13, 15, 20, -9));
        s.terms("SQUARES of the set beside it, of several the least.", "of several the least", () -> {
            looks(Due.CORRIDOR + "p9;sm05;", 36, 1, 3, 0, 2, 4, -9);
            looks("p9;sm00;", 81, 7, 9, 14, 16, 19);
        });
        s.terms(most, "one before none, though that is less", () ->
            looks(Due.CORRIDOR + "p9;sm05;", 27, 1, 2, 0, 3, -9));
    }

    private void edge() {
        s.terms("of several the least; none has: as a FIRST one.", "fewest, of several the least", () -> {
            looks(CROSS + "se35;", 9, 8, 13, 15, 14, 20, -9);
            looks(Due.CORRIDOR + "p9;se05;", 36, 0, 1, 2, 3, 4, -9);
            looks("p9;se00;", 81, 0, 1, 2, 3, 4, 5);
        });
        s.terms("e EDGE under MOST: the one with the fewest, but 1 at least",
            "1 at least: not the one that has none beside it", () ->
                looks(BLOCKS, 81, 1, 2, 3, 6, 7, 12, 9, 10, 15));
        s.terms("of several the least; none has: as a FIRST one.", "none has: the least", () -> {
            HowFarShesGot x = Due.garden("p9;kh00;kh08;kh10;kh11;kh21;kh25;kh28;kh31;kh34;se00;");
            s.due("two are left", x.left(0, 40, 38), 2);
            s.due("the less", x.looksAt(0, 40, 38), 29);
            s.due("the other", x.looksAt(0, 40, 39), 33);
            looks("se00;", 0, 14, -9);
        });
    }

    private void ahead() {
        s.terms("of several the least; he stands there then; without ROADS as a NEAR one.",
            "nearest to some road, of several the least, wherever he stands", () -> {
                for (String stand : new String[] {"00", "05", "14", "35"}) {
                    looks(CROSS + "kr30;sa" + stand + ";", 9, 13, 20, 14, 8, 15, -9);
                    looks(CROSS + "kr35;kr02;sa" + stand + ";", 9, 8, 14, 13, 15, 20, -9);
                }
            });
        s.terms("a AHEAD under NEAR: the one nearest to some ROAD so",
            "a road that she never comes to counts too", () ->
                looks(Due.CORRIDOR + "p9;kr35;sa00;", 18, 2, 1, 0, -9));
        s.terms("a AHEAD under NEAR: the one nearest to some ROAD so", "rows and columns together", () -> {
            looks("p9;h14;kh13;kh20;kh15;kr18;sa00;", 9, 14, 8, -9);
            looks("p9;kr14;sa00;", 999, 14, -9);
        });
        s.terms("of several the least; he stands there then; without ROADS as a NEAR one.", "without roads", () -> {
            looks(CROSS + "sa35;", 9, 15, 14, 8, 13, 20, -9);
            looks(Due.CORRIDOR + "p9;sa02;", 36, 2, 1, 0, 3, 4, -9);
        });
    }

    private void searchByOne() {
        String words = "SEARCH by one from MINUTE t: behind how many looks (0 .. 200) the set is empty; -9;";
        s.terms(words, "1 at least, for she is somewhere", () -> {
            s.due("search(0, 0)", Due.garden("sf00;").search(0, 0), 1);
            s.due("on a road", Due.garden("kr14;sf00;").search(0, 999), 1);
        });
        s.terms(words, "200, not 201", () -> {
            s.due("199", Due.garden("p7;sf32;").search(0, 37), 199);
            s.due("200", Due.garden("p7;sf32;").search(0, 36), 200);
            s.due("201 by n", Due.garden("p7;sn02;").search(0, 20), -9);
            s.due("201 by a", Due.garden("p7;sa02;").search(0, 20), -9);
        });
        s.terms(words, "never", () -> s.due("p1", Due.garden("p1;sf00;").search(0, 999), -9));
        s.terms(words, "each SEEKER by his own KIND and from his own place", () -> {
            HowFarShesGot x = Due.corridor("sf05;sn05;sn00;");
            int[] looks = {11, 3, 11};
            int[] second = {0, 1, 0};
            int[] behindTwo = {2, 1, 2};
            for (int seeker = 0; seeker < 3; seeker++) {
                s.due("search(" + seeker + ", 3)", x.search(seeker, 3), looks[seeker]);
                s.due("looksAt(" + seeker + ", 3, 1)", x.looksAt(seeker, 3, 1), second[seeker]);
                s.due("left(" + seeker + ", 3, 2)", x.left(seeker, 3, 2), behindTwo[seeker]);
            }
            x.stand(2, 5);
            s.due("once he stands there", x.search(2, 3), 3);
        });
        s.terms("how many are in it behind n looks (0 .. 60);", "0, 1, 59 and 60", () -> {
            HowFarShesGot x = Due.garden("sf00;");
            s.due("left(0, 999, 0)", x.left(0, 999, 0), 36);
            s.due("left(0, 999, 1)", x.left(0, 999, 1), 36);
            s.due("left(0, 999, 2)", x.left(0, 999, 2), 35);
            s.due("left(0, 999, 59)", x.left(0, 999, 59), 36);
            s.due("left(0, 999, 60)", x.left(0, 999, 60), 35);
        });
        s.terms("which is looked at as the i-th.", "from 0 on, 59 and 60", () -> {
            HowFarShesGot x = Due.garden("sf00;");
            int[] due = {0, 0, 1, 0, 1};
            for (int i = 0; i < due.length; i++) {
                s.due("looksAt(0, 999, " + i + ")", x.looksAt(0, 999, i), due[i]);
            }
            s.due("looksAt(0, 999, 59)", x.looksAt(0, 999, 59), 0);
            s.due("looksAt(0, 999, 60)", x.looksAt(0, 999, 60), 1);
        });
    }

    private void bestSeeker() {
        s.terms("BEST SEEKER: the KIND (0 .. 4, from where he stands) by which it is empty soonest",
            "each KIND can be it", () -> {
                best("p8;h10;kh00;kh09;kh21;kh34;", "16", 23, 0, 17, 25, -9, 21, 25);
                best("p8;kh20;kh27;kh32;kh35;kr00;", "05", 22, 1, 61, 52, -9, -9, 63);
                best("p9;kh06;kh15;kh20;kh35;", "14", 22, 2, 13, 14, 12, 13, 14);
                best("p9;h16;kh00;kh01;kh08;kh26;kh27;kr15;", "04", 33, 3, 46, 39, -9, 28, 72);
                best("p9;kr28;", "16", 17, 4, 23, 27, -9, 24, 19);
            });
        s.terms("of several the first; -9.", "of several the first", () -> {
            best("", "00", 0, 0, 1, 1, 1, 1, 1);
            best(Due.CORRIDOR, "05", 3, 1, 11, 3, 11, 11, 3);
        });
        s.terms("BEST SEEKER: the KIND (0 .. 4, from where he stands) by which it is empty soonest",
            "from where he stands, whatever his own KIND", () -> {
                for (char kind : "fnmea".toCharArray()) {
                    HowFarShesGot x = Due.corridor("s" + kind + "05;");
                    s.due(kind + " at 5", x.bestSeeker(0, 3), 1);
                    x.stand(0, 0);
                    s.due(kind + " at 0", x.bestSeeker(0, 3), 0);
                }
            });
        s.terms("BEST SEEKER: the KIND (0 .. 4, from where he stands) by which it is empty soonest",
            "each SEEKER from his own place", () -> {
                HowFarShesGot x = Due.corridor("sf00;sf05;sf00;");
                s.due("0", x.bestSeeker(0, 3), 0);
                s.due("1", x.bestSeeker(1, 3), 1);
                s.due("2", x.bestSeeker(2, 3), 0);
            });
        s.terms("BEST SEEKER: the KIND (0 .. 4, from where he stands) by which it is empty soonest",
            "200, not 201", () -> {
                best("p7;", "12", 36, 0, 200, -9, -9, -9, -9);
                best("p6;kh18;kh26;kh29;kh35;", "24", 31, -9, -9, -9, -9, -9, -9);
            });
        s.terms("of several the first; -9.", "-9: by none", () -> best("p1;", "00", 999, -9, -9, -9, -9, -9, -9));
    }

    /** The best KIND, and behind how many looks the set is empty by each of the five. */
    private void best(String garden, String stand, int t, int due, int... looks) {
        for (int kind = 0; kind < 5; kind++) {
            HowFarShesGot x = Due.garden(garden + "s" + "fnmea".charAt(kind) + stand + ";");
            s.due(garden + " search of " + "fnmea".charAt(kind), x.search(0, t), looks[kind]);
            s.due(garden + " bestSeeker(0, " + t + ")", x.bestSeeker(0, t), due);
        }
    }

    private void allSeekers() {
        s.terms("ALL SEEKERS look in turn, by numbers, a MINUTE each", "one, two, three", () -> {
            s.due("one is as alone", Due.corridor("sf00;").together(3), 11);
            s.due("n, f", Due.corridor("sn05;sf00;").together(3), 3);
            s.due("f, n", Due.corridor("sf00;sn05;").together(3), -9);
            s.due("f, n, n", Due.corridor("p9;sf00;sn05;sn00;").together(27), 4);
        });
        s.terms("ALL SEEKERS look in turn, by numbers, a MINUTE each",
            "behind the last the first again, each from where he looked himself", () -> {
                s.due("two", Due.garden("p9;sn08;sa16;").together(19), 43);
                s.due("three", Due.garden("p4;sm09;sn30;sn20;").together(4), 24);
            });
        s.terms("behind how many looks it is empty; -9.", "1 at least, for she is somewhere", () ->
            s.due("together(0)", Due.garden("se35;sa00;sm01;").together(0), 1));
        s.terms("behind how many looks it is empty; -9.", "200, not 201", () -> {
            s.due("200 of two", Due.garden("p7;sf08;sf11;").together(36), 200);
            s.due("201 of two", Due.garden("p7;sa24;sf27;").together(28), -9);
            s.due("200 of three", Due.garden("p7;se01;sf35;sf16;").together(29), 200);
            s.due("201 of three", Due.garden("p8;sa14;sn21;se14;").together(18), -9);
        });
        s.terms("SEEKERS, KINDS, which SQUARE of the set is looked at next", "none, when it is empty: -9", () -> {
            for (char kind : "fnmea".toCharArray()) {
                looks("s" + kind + "00;", 0, 14, -9, -9);
                looks("kr14;s" + kind + "00;", 0, 14, -9, -9);
            }
        });
    }

    /** What all calls of a seeker and a minute refuse alike. */
    private void seekersAndMinutes(int number, String words, String name, IntFunction<Call> calls) {
        s.promise(number, words, "-1: seeker -1, and as many as there are", () -> {
            for (int seeker : new int[] {LEAST, -1, 3, GREATEST}) {
                twins.refused(-1, name + " of seeker " + seeker, x -> calls.apply(0).of(x, seeker));
            }
            twins.refused(Twins.FRESH, -1, name + " of seeker 0", x -> calls.apply(0).of(x, 0));
            twins.refused(Twins.RICH, -1, name + " of seeker 2", x -> calls.apply(0).of(x, 2));
        });
        s.promise(number, words, "-4: t -1", () -> {
            for (int t : new int[] {LEAST, -1}) {
                twins.refused(Twins.RICH, -4, name + " at " + t, x -> calls.apply(t).of(x, 1));
                twins.refused(Twins.FULL, -4, name + " at " + t, x -> calls.apply(t).of(x, 2));
            }
        });
        s.promise(number, words, "-1 before -4 and -6", () -> {
            for (int t : new int[] {-1, 1000}) {
                twins.refused(-1, name + " of seeker 3 at " + t, x -> calls.apply(t).of(x, 3));
                twins.refused(-1, name + " of seeker -1 at " + t, x -> calls.apply(t).of(x, -1));
            }
        });
    }

    /** At 999 the answer is of a seeker of kind f, and she at HOME alone. */
    private void lateMinutes(int number, String words, String name, int answerAt999, IntFunction<Call> calls) {
        s.promise(number, words, "-6: t 1000, not 999", () -> {
            for (int t : new int[] {1000, GREATEST}) {
                twins.refused(Twins.RICH, -6, name + " at " + t, x -> calls.apply(t).of(x, 1));
                twins.refused(Twins.FULL, -6, name + " at " + t, x -> calls.apply(t).of(x, 2));
            }
            HowFarShesGot x = Due.corridor("kh01;sf00;");
            s.due(name + " at 999 is no refusal", calls.apply(999).of(x, 0), answerAt999);
            s.due("refusals -6", x.count(16), 0);
        });
    }

    /** A call at a minute that is told already, of a seeker. */
    private interface Call {
        int of(HowFarShesGot x, int seeker);
    }

    private void promise14Search() {
        seekersAndMinutes(14, "-1; -4; -6 999.", "search", t -> (x, seeker) -> x.search(seeker, t));
        lateMinutes(14, "-1; -4; -6 999.", "search", 1, t -> (x, seeker) -> x.search(seeker, t));
        s.promise(14, "SEARCH: behind how many looks it is empty; -9.",
            "nothing changes by it, -9 is no refusal", () -> {
                twins.asks(() -> Due.corridor("sn05;"), 3, "search(0, 3)", x -> x.search(0, 3));
                twins.asks(() -> Due.garden("p1;sa05;"), -9, "search(0, 999)", x -> x.search(0, 999));
            });
    }

    private void promise15Left() {
        seekersAndMinutes(15, "-1; -4 either; -6 (999; 60).", "left", t -> (x, seeker) -> x.left(seeker, t, 0));
        lateMinutes(15, "-1; -4 either; -6 (999; 60).", "left", 1, t -> (x, seeker) -> x.left(seeker, t, 0));
        s.promise(15, "-1; -4 either; -6 (999; 60).", "-4: n -1", () -> {
            for (int n : new int[] {LEAST, -1}) {
                twins.refused(Twins.RICH, -4, "left(0, 0, " + n + ")", x -> x.left(0, 0, n));
                twins.refused(Twins.FULL, -4, "left(0, 999, " + n + ")", x -> x.left(0, 999, n));
            }
        });
        s.promise(15, "-1; -4 either; -6 (999; 60).", "-6: n 61, not 60", () -> {
            for (int n : new int[] {61, GREATEST}) {
                twins.refused(Twins.RICH, -6, "left(0, 0, " + n + ")", x -> x.left(0, 0, n));
                twins.refused(Twins.FULL, -6, "left(0, 999, " + n + ")", x -> x.left(0, 999, n));
            }
            twins.asks(() -> Due.garden("sf00;"), 35, "left(0, 999, 60)", x -> x.left(0, 999, 60));
        });
        s.promise(15, "-1; -4 either; -6 (999; 60).", "-1 before -4 before -6, each counted once", () -> {
            twins.refused(-1, "left(3, -1, -1)", x -> x.left(3, -1, -1));
            twins.refused(-1, "left(-1, 0, 61)", x -> x.left(-1, 0, 61));
            twins.refused(-1, "left(3, 0, -1)", x -> x.left(3, 0, -1));
            twins.refused(Twins.RICH, -4, "left(0, -1, 61)", x -> x.left(0, -1, 61));
            twins.refused(Twins.RICH, -4, "left(0, 1000, -1)", x -> x.left(0, 1000, -1));
            twins.refused(Twins.RICH, -4, "left(0, -1, -1)", x -> x.left(0, -1, -1));
            twins.refused(Twins.RICH, -6, "left(0, 1000, 61)", x -> x.left(0, 1000, 61));
        });
        s.promise(15, "How many are in the SET behind n looks.", "nothing changes by it", () ->
            twins.asks(() -> Due.corridor("sn05;"), 1, "left(0, 3, 2)", x -> x.left(0, 3, 2)));
    }

    private void promise16LooksAt() {
        seekersAndMinutes(16, "-1; -4 either; -6 (999; 60).", "looksAt", t -> (x, seeker) -> x.looksAt(seeker, t, 0));
        lateMinutes(16, "-1; -4 either; -6 (999; 60).", "looksAt", -9, t -> (x, seeker) -> x.looksAt(seeker, t, 60));
        s.promise(16, "-1; -4 either; -6 (999; 60).", "-4: i -1", () -> {
            for (int i : new int[] {LEAST, -1}) {
                twins.refused(Twins.RICH, -4, "looksAt(0, 0, " + i + ")", x -> x.looksAt(0, 0, i));
                twins.refused(Twins.FULL, -4, "looksAt(0, 999, " + i + ")", x -> x.looksAt(0, 999, i));
            }
        });
        s.promise(16, "-1; -4 either; -6 (999; 60).", "-6: i 61, not 60", () -> {
            for (int i : new int[] {61, GREATEST}) {
                twins.refused(Twins.RICH, -6, "looksAt(0, 0, " + i + ")", x -> x.looksAt(0, 0, i));
                twins.refused(Twins.FULL, -6, "looksAt(0, 999, " + i + ")", x -> x.looksAt(0, 999, i));
            }
            twins.asks(() -> Due.garden("sf00;"), 1, "looksAt(0, 999, 60)", x -> x.looksAt(0, 999, 60));
        });
        s.promise(16, "-1; -4 either; -6 (999; 60).", "-1 before -4 before -6, each counted once", () -> {
            twins.refused(-1, "looksAt(3, -1, -1)", x -> x.looksAt(3, -1, -1));
            twins.refused(-1, "looksAt(-1, 0, 61)", x -> x.looksAt(-1, 0, 61));
            twins.refused(-1, "looksAt(3, 0, -1)", x -> x.looksAt(3, 0, -1));
            twins.refused(Twins.RICH, -4, "looksAt(0, -1, 61)", x -> x.looksAt(0, -1, 61));
            twins.refused(Twins.RICH, -4, "looksAt(0, 1000, -1)", x -> x.looksAt(0, 1000, -1));
            twins.refused(Twins.RICH, -4, "looksAt(0, -1, -1)", x -> x.looksAt(0, -1, -1));
            twins.refused(Twins.RICH, -6, "looksAt(0, 1000, 61)", x -> x.looksAt(0, 1000, 61));
        });
        s.promise(16, "The SQUARE he looks at as the i-th; -9 the SET is empty.",
            "squares 0 and 35, -9 no refusal", () -> {
                twins.asks(() -> Due.garden("h00;sf35;"), 0, "looksAt(0, 0, 0)", x -> x.looksAt(0, 0, 0));
                twins.asks(() -> Due.garden("h35;sn00;"), 35, "looksAt(0, 0, 0)", x -> x.looksAt(0, 0, 0));
                twins.asks(() -> Due.garden("h35;sn00;"), -9, "looksAt(0, 0, 1)", x -> x.looksAt(0, 0, 1));
                twins.asks(() -> Due.garden("h35;sn00;"), -9, "looksAt(0, 0, 60)", x -> x.looksAt(0, 0, 60));
            });
    }

    private void promise17BestSeeker() {
        seekersAndMinutes(17, "-1; -4; -6 999.", "bestSeeker", t -> (x, seeker) -> x.bestSeeker(seeker, t));
        lateMinutes(17, "-1; -4; -6 999.", "bestSeeker", 0, t -> (x, seeker) -> x.bestSeeker(seeker, t));
        s.promise(17, "BEST SEEKER; -9.", "he is of his KIND and where he was, -9 is no refusal", () -> {
            twins.asks(() -> Due.corridor("sa05;"), 1, "bestSeeker(0, 3)", x -> x.bestSeeker(0, 3));
            twins.asks(() -> Due.garden("p1;sf00;"), -9, "bestSeeker(0, 999)", x -> x.bestSeeker(0, 999));
        });
    }

    private void promise18Together() {
        s.promise(18, "-3 there are none; -4; -6 999.", "-3: none, whatever t", () -> {
            for (int t : new int[] {LEAST, -1, 0, 999, 1000, GREATEST}) {
                twins.refused(Twins.FRESH, -3, "together(" + t + ")", x -> x.together(t));
            }
        });
        s.promise(18, "-3 there are none; -4; -6 999.", "-4: t -1", () -> {
            for (int t : new int[] {LEAST, -1}) {
                twins.refused(Twins.RICH, -4, "together(" + t + ")", x -> x.together(t));
                twins.refused(Twins.FULL, -4, "together(" + t + ")", x -> x.together(t));
            }
        });
        s.promise(18, "-3 there are none; -4; -6 999.", "-6: t 1000, not 999", () -> {
            for (int t : new int[] {1000, GREATEST}) {
                twins.refused(Twins.RICH, -6, "together(" + t + ")", x -> x.together(t));
                twins.refused(Twins.FULL, -6, "together(" + t + ")", x -> x.together(t));
            }
            twins.asks(() -> Due.corridor("kh01;sf00;"), 1, "together(999)", x -> x.together(999));
        });
        s.promise(18, "ALL SEEKERS; -9.", "nothing changes by it, -9 is no refusal", () -> {
            twins.asks(() -> Due.corridor("sn05;sf00;"), 3, "together(3)", x -> x.together(3));
            twins.asks(() -> Due.corridor("sf00;sn05;"), -9, "together(3)", x -> x.together(3));
        });
    }
}
