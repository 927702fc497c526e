import java.util.List;

/** Letters, what a GARDEN is told with, and FAULTS: the Terms' lines on a GARDEN, promises 2 and 3. */
final class TellingBounds {
    private static final int LEAST = Integer.MIN_VALUE;
    private static final int GREATEST = Integer.MAX_VALUE;
    private static final String KINDS = "lhgsbr";
    private static final String SEEKERS = "fnmea";
    /** A right statement of each form, and beside it which letters can stand at each of its places. */
    private static final String[][] FORMS = {
        {"kl15;", "H", KINDS, "D", "D", ";"}, {"vl1516;", "H", KINDS, "D", "D", "D", "D", ";"},
        {"h15;", "H", "D", "D", ";"}, {"p3;", "H", "D", ";"}, {"w3;", "H", "D", ";"},
        {"sf15;", "H", SEEKERS, "D", "D", ";"}};
    /** 31 statements of three letters: 93 letters, three short of all. */
    private static final String LONG = "p1;".repeat(31);

    private final Sentences s;
    private final Twins twins;

    TellingBounds(Sentences sentences) {
        s = sentences;
        twins = new Twins(sentences);
    }

    void all() {
        statements();
        squareStatements();
        otherStatements();
        faultsOfLetters();
        faultsOfStatements();
        faultsOfHome();
        faultsChangeNothing();
        promise2Letter();
        promise3Garden();
    }

    private static String two(int number) {
        return "" + number / 10 + number % 10;
    }

    private void statements() {
        s.terms("A GARDEN is told in letters, one by one (96 at most)", "96 letters are one", () -> {
            HowFarShesGot x = new HowFarShesGot();
            s.due("32 statements", Due.tell(x, LONG + "p4;"), 32);
            s.due("the last came too", x.count(1), 4);
        });
        s.terms("A GARDEN is told in letters, one by one (96 at most)", "the 97th is refused, the 96 are one still",
            () -> {
                HowFarShesGot x = Due.letters(new HowFarShesGot(), LONG + "p4;");
                s.due("letter 97", x.letter('p'), -6);
                s.due("32 statements", x.garden(), 32);
                s.due("behind it there is room again", x.letter('p'), 1);
            });
        s.terms("STATEMENTS, each with \";\" behind", "the last one too, and nothing between", () -> {
            s.tells("p1", -1002);
            s.tells("p1;", 1);
            s.tells("p1w1;", -1002);
            s.tells("p1;w1", -1005);
            s.tells("p1;w1;", 2);
            s.tells("p1;;", -1003);
            s.tells("p1; w1;", -1003);
        });
        s.terms("At least one STATEMENT.", "none is a FAULT at the end, one is none", () -> {
            s.tells("", -1000);
            s.tells(";", -1000);
            s.tells("w0;", 1);
        });
    }

    private void squareStatements() {
        s.terms("\"k\" a letter of a KIND, a SQUARE (2 digits)", "00 and 35 come, 36 and 99 do not", () -> {
            for (int square = 0; square < 100; square++) {
                HowFarShesGot x = new HowFarShesGot();
                s.due("kg" + two(square), Due.tell(x, "kg" + two(square) + ";"), square < 36 ? 1 : -2000);
                for (int other = 0; other < 36; other++) {
                    s.due("kind of " + other, x.square(other, 0), other == square ? 2 : 0);
                }
            }
        });
        s.terms("\"k\" a letter of a KIND, a SQUARE (2 digits)", "each KIND", () -> {
            for (int kind = 0; kind < 6; kind++) {
                HowFarShesGot x = Due.garden("vs0035;k" + KINDS.charAt(kind) + "35;");
                s.due(KINDS.charAt(kind) + " at 35", x.square(35, 0), kind);
                s.due("sun at 34", x.square(34, 0), 3);
            }
        });
        s.terms("two SQUARES (2 digits each, the first no more than the other)", "of all pairs from 00 to 99", () -> {
            for (int one = 0; one < 100; one++) {
                for (int other = 0; other < 100; other++) {
                    s.tells("vg" + two(one) + two(other) + ";", one <= other && other < 36 ? 1 : -2000);
                }
            }
        });
        s.terms("\"v\" a letter of a KIND", "each KIND", () -> {
            for (int kind = 0; kind < 6; kind++) {
                HowFarShesGot x = Due.garden("v" + KINDS.charAt(kind) + "1535;");
                s.due("lawn at 14", x.square(14, 0), 0);
                s.due(KINDS.charAt(kind) + " at 15", x.square(15, 0), kind);
                s.due(KINDS.charAt(kind) + " at 35", x.square(35, 0), kind);
            }
        });
        s.terms("all from the one to the other", "both of them, none ahead, none behind", () -> {
            for (int one = 0; one < 36; one++) {
                for (int other = one; other < 36; other++) {
                    HowFarShesGot x = Due.garden("vg" + two(one) + two(other) + ";");
                    s.due("how many", x.count(5), other - one + 1);
                    for (int square = 0; square < 36; square++) {
                        s.due("vg" + two(one) + two(other) + ": " + square, x.square(square, 0),
                            one <= square && square <= other ? 2 : 0);
                    }
                }
            }
        });
    }

    private void otherStatements() {
        s.terms("\"h\" HOME (2 digits)", "00 and 35 come, 36 and 99 do not", () -> {
            for (int square = 0; square < 100; square++) {
                HowFarShesGot x = new HowFarShesGot();
                s.due("h" + two(square), Due.tell(x, "h" + two(square) + ";"), square < 36 ? 1 : -2000);
                s.due("HOME", x.count(0), square < 36 ? square : 14);
            }
        });
        s.terms("\"p\" PACE (a digit)", "1 and 9 come, 0 does not, nor has it two", () -> {
            for (int pace = 0; pace < 10; pace++) {
                HowFarShesGot x = new HowFarShesGot();
                s.due("p" + pace, Due.tell(x, "p" + pace + ";"), pace > 0 ? 1 : -2000);
                s.due("PACE", x.count(1), pace > 0 ? pace : 2);
            }
            s.tells("p10;", -1002);
            s.tells("p01;", -1002);
        });
        s.terms("\"w\" WARM (a digit)", "0 and 9 come, nor has it two", () -> {
            for (int warm = 0; warm < 10; warm++) {
                HowFarShesGot x = new HowFarShesGot();
                s.due("w" + warm, Due.tell(x, "w" + warm + ";"), 1);
                s.due("WARM", x.count(2), warm);
            }
            s.tells("w10;", -1002);
        });
        s.terms("\"s\" a letter of a KIND of SEEKER, a SQUARE (2 digits): a SEEKER more", "00 and 35, not 36 and 99",
            () -> {
                for (int square = 0; square < 100; square++) {
                    HowFarShesGot x = new HowFarShesGot();
                    s.due("sn" + two(square), Due.tell(x, "sn" + two(square) + ";"), square < 36 ? 1 : -2000);
                    s.due("SEEKERS", x.count(3), square < 36 ? 1 : 0);
                    s.due("where", x.seeker(0, 1), square < 36 ? square : -1);
                }
            });
        s.terms("\"s\" a letter of a KIND of SEEKER, a SQUARE (2 digits): a SEEKER more", "each KIND, on a hedge too",
            () -> {
                for (int kind = 0; kind < 5; kind++) {
                    HowFarShesGot x = Due.garden("kh35;s" + SEEKERS.charAt(kind) + "35;");
                    s.due("KIND", x.seeker(0, 0), kind);
                }
            });
    }

    private static boolean fits(String sign, char c) {
        switch (sign) {
            case "H": return "kvhpws".indexOf(c) >= 0;
            case "D": return c >= '0' && c <= '9';
            default: return sign.indexOf(c) >= 0;
        }
    }

    private void faultsOfLetters() {
        String words = "kind 1 the place of the first letter with which no GARDEN can go on";
        s.terms(words, "each of the 256 letters at each place of each STATEMENT", () -> {
            for (String lead : List.of("", "p1;")) {
                for (String[] form : FORMS) {
                    for (int i = 0; i < form[0].length(); i++) {
                        letterAt(lead, form, i);
                    }
                }
            }
        });
        s.terms(words, "behind it nothing counts", () -> {
            s.tells("x", -1000);
            s.tells("xp1;", -1000);
            s.tells("p1;kx15;x", -1004);
            s.tells("khh", -1002);
        });
        s.terms(words, "at the last place of 96", () -> {
            s.tells(LONG + "p1x", -1095);
            s.tells(LONG + "px;", -1094);
            s.tells(LONG + "xp;", -1093);
        });
        s.terms("(the end, if something lacks): -1000 less the place", "every STATEMENT that breaks off", () -> {
            for (String[] form : FORMS) {
                for (int i = 1; i < form[0].length(); i++) {
                    s.tells(form[0].substring(0, i), -1000 - i);
                    s.tells("p1;" + form[0] + form[0].substring(0, i), -1003 - form[0].length() - i);
                }
            }
        });
        s.terms("(the end, if something lacks): -1000 less the place", "from 0 to 96", () -> {
            s.tells("", -1000);
            s.tells(LONG + "p", -1094);
            s.tells(LONG + "p1", -1095);
            s.tells(LONG + "kh0", -1096);
            s.tells(LONG + "h14", -1096);
        });
    }

    private void letterAt(String lead, String[] form, int i) {
        for (char c = 0; c < 256; c++) {
            String head = lead + form[0].substring(0, i) + c;
            boolean whole = i == form[0].length() - 1 && c == ';';
            int end = whole ? (lead.isEmpty() ? 1 : 2) : -1000 - head.length();
            s.tells(head, fits(form[1 + i], c) ? end : -1000 - head.length() + 1);
        }
    }

    private void faultsOfStatements() {
        String words = "kind 2 the place of the first letter of the first STATEMENT";
        s.terms(words, "from 0 to 93", () -> {
            s.tells("p0;", -2000);
            s.tells("p1;p0;", -2003);
            s.tells("kg00;p0;", -2005);
            s.tells("vg0001;p0;", -2007);
            s.tells("h00;p0;", -2004);
            s.tells("w0;p0;", -2003);
            s.tells("sf00;p0;", -2005);
            s.tells(LONG + "p0;", -2093);
        });
        s.terms(words, "the first of two, of whatever form", () -> {
            s.tells("p1;p0;h36;", -2003);
            s.tells("p1;h36;p0;", -2003);
            s.tells("kh14;vg0100;", -2000);
        });
        s.terms(words, "kind 1 is told before it, wherever both stand", () -> {
            s.tells("p0;x", -1003);
            s.tells("h36;p", -1005);
            s.tells("kh14;p1", -1007);
            s.tells("vg0100;p0;;", -1010);
        });
        s.terms("that, behind all ahead of it in the text, is not as it must be", "what is ahead counts", () -> {
            s.tells("kh00;h00;", -2005);
            s.tells("kh00;kl00;h00;", 3);
            s.tells("h00;kh14;", 2);
            s.tells("h00;kh00;", -2004);
            s.tells("h00;h14;kh14;", -2008);
            s.tells("sf00;sf00;sf00;sf00;", -2015);
        });
        s.terms("that, behind all ahead of it in the text, is not as it must be", "what is behind does not", () -> {
            s.tells("kh14;h00;", -2000);
            s.tells("p0;p1;", -2000);
        });
        s.terms("that, behind all ahead of it in the text, is not as it must be",
            "what was there before counts", () -> {
                s.due("HOME on a hedge", Due.tell(Due.garden("kh00;"), "h00;"), -2000);
                s.due("a hedge on HOME", Due.tell(Due.garden("h00;"), "kh00;"), -2000);
                s.due("a hedge where HOME was", Due.tell(Due.garden("h00;"), "kh14;"), 1);
                s.due("a seeker more", Due.tell(Due.garden("sf00;sf00;"), "sf00;sf00;"), -2005);
            });
        s.terms("(a number out of range", "SQUARES 36 to 99, PACE 0", () -> {
            for (int square = 36; square < 100; square++) {
                for (String form : List.of("kl", "h", "sa", "vl00", "vl35", "vl36")) {
                    s.tells("w1;" + form + two(square) + ";", -2003);
                }
                s.tells("w1;vl" + two(square) + "35;", -2003);
            }
            s.tells("w1;p0;", -2003);
        });
        s.terms("no room for more): -2000 less the place", "the fourth SEEKER", () -> {
            s.tells("sf00;sf01;sf02;", 3);
            s.tells("sf00;sf01;sf02;sf03;", -2015);
            s.tells("sf00;sf01;sf02;sf03;sf04;", -2015);
            s.due("behind three", Due.tell(Due.garden("sf00;sf01;sf02;"), "p1;sf03;"), -2003);
            s.due("behind two", Due.tell(Due.garden("sf00;sf01;"), "sf02;"), 1);
        });
    }

    private void faultsOfHome() {
        s.terms("HOME that is shut or becomes so", "HOME told on each kind", () -> {
            for (int kind = 0; kind < 6; kind++) {
                s.tells("k" + KINDS.charAt(kind) + "35;h35;", kind == 1 ? -2005 : 2);
            }
        });
        s.terms("HOME that is shut or becomes so", "each kind told on HOME", () -> {
            for (int kind = 0; kind < 6; kind++) {
                s.tells("k" + KINDS.charAt(kind) + "14;", kind == 1 ? -2000 : 1);
                s.tells("v" + KINDS.charAt(kind) + "0035;", kind == 1 ? -2000 : 1);
            }
        });
        s.terms("HOME that is shut or becomes so", "hedges from the one to the other, wherever HOME is", () -> {
            for (int home : new int[] {0, 1, 14, 34, 35}) {
                for (int one = 0; one < 36; one++) {
                    for (int other = one; other < 36; other++) {
                        s.tells("h" + two(home) + ";vh" + two(one) + two(other) + ";",
                            one <= home && home <= other ? -2004 : 2);
                    }
                }
            }
        });
    }

    private void faultsChangeNothing() {
        s.terms("Without FAULT all of it comes, with one nothing.", "without FAULT all", () -> {
            HowFarShesGot x = Due.garden("kr00;vg0203;h20;p7;w8;sm35;");
            int[] due = {20, 7, 8, 1, 0, 2, 1};
            for (int what = 0; what < due.length; what++) {
                s.due("count(" + what + ")", x.count(what), due[what]);
            }
            s.due("KIND of SEEKER", x.seeker(0, 0), 2);
            s.due("SQUARE of SEEKER", x.seeker(0, 1), 35);
        });
        s.terms("Without FAULT all of it comes, with one nothing.", "on what other calls made of it", () -> {
            HowFarShesGot x = Due.garden("sf00;");
            x.image();
            x.turnTo(7, 4);
            x.set(0, 20);
            x.set(1, 8);
            x.set(2, 1);
            x.stand(0, 33);
            s.due("another", Due.tell(x, "kg08;"), 1);
            int[] due = {20, 8, 1, 1, 0, 1, 0};
            for (int what = 0; what < due.length; what++) {
                s.due("count(" + what + ")", x.count(what), due[what]);
            }
            s.due("a bed", x.square(7, 0), 4);
            s.due("where he stands", x.seeker(0, 1), 33);
            x.on();
            s.due("another behind on()", Due.tell(x, "kg09;"), 1);
            s.due("no bed", x.square(7, 0), 0);
            s.due("HOME", x.count(0), 14);
            s.due("where he stood", x.seeker(0, 1), 0);
        });
        s.terms("Without FAULT all of it comes, with one nothing.", "nothing of it with the next one either", () -> {
            HowFarShesGot x = Due.garden("sf00;");
            s.due("a FAULT", Due.tell(x, "kr00;vg0203;h20;p7;w8;sm35;p0;"), -2027);
            s.due("without FAULT", Due.tell(x, "kg08;"), 1);
            int[] due = {14, 2, 5, 1, 0, 1, 0};
            for (int what = 0; what < due.length; what++) {
                s.due("count(" + what + ")", x.count(what), due[what]);
            }
        });
        String[] faults = {"kr00;vg0203;h20;p7;w8;sm35;p0;", "kr00;vg0203;h20;p7;w8;sm35;x", "kr22;h36;",
            "sf00;sf00;", "p5", "h22;kh22;", "w9;kh21;"};
        int[] due = {-2027, -1027, -2005, -2005, -1002, -2004, -2003};
        s.terms("Without FAULT all of it comes, with one nothing.", "with a FAULT nothing", () -> {
            for (int i = 0; i < faults.length; i++) {
                HowFarShesGot x = Twins.RICH.get();
                HowFarShesGot y = Twins.RICH.get();
                x.garden();
                y.garden();
                s.due("the garden " + faults[i], Due.tell(x, faults[i]), due[i]);
                twins.alike(x, y, 0, "behind the FAULT in " + faults[i]);
            }
        });
    }

    private void promise2Letter() {
        s.promise(2, "A letter (0 .. 255) comes: how many there are.", "0 and 255, from the 1st to the 96th", () -> {
            HowFarShesGot x = new HowFarShesGot();
            for (int i = 1; i <= 96; i++) {
                s.due("letter " + i, x.letter(i % 2 == 0 ? 0 : 255), i);
                s.due("count(8)", x.count(8), i);
            }
        });
        s.promise(2, "A letter (0 .. 255) comes: how many there are.",
            "behind a garden from the 1st on again", () -> {
                HowFarShesGot x = Due.garden("p1;");
                s.due("letter", x.letter('k'), 1);
                Due.tell(x, "x");
                s.due("letter behind a FAULT", x.letter('k'), 1);
            });
        s.promise(2, "-4;", "-1", () -> {
            twins.refused(-4, "letter(-1)", x -> x.letter(-1));
            twins.refused(-4, "letter(least)", x -> x.letter(LEAST));
        });
        s.promise(2, "-6 (255; 96, too)", "256", () -> {
            twins.refused(-6, "letter(256)", x -> x.letter(256));
            twins.refused(-6, "letter(greatest)", x -> x.letter(GREATEST));
        });
        s.promise(2, "-6 (255; 96, too)", "the 97th", () -> {
            twins.refused(Twins.FULL, -6, "letter 97", x -> x.letter('k'));
            twins.refused(Twins.FULL, -6, "letter 97 of 0", x -> x.letter(0));
            twins.refused(Twins.FULL, -6, "letter 97 of 255", x -> x.letter(255));
        });
        s.promise(2, "-6 (255; 96, too)", "-4 before it, when there are 96 too", () ->
            twins.refused(Twins.FULL, -4, "letter(-1)", x -> x.letter(-1)));
    }

    private void promise3Garden() {
        s.promise(3, "The letters become a GARDEN, and are no more (with a FAULT neither)",
            "none wait behind", () -> {
                for (String text : List.of("p1;", LONG + "p1;", "", "x", "p0;", LONG + "kh0")) {
                    HowFarShesGot x = Due.letters(new HowFarShesGot(), text);
                    s.due("letters of " + text, x.count(8), text.length());
                    x.garden();
                    s.due("letters behind " + text, x.count(8), 0);
                    s.due("a garden of none", x.garden(), -1000);
                }
            });
        s.promise(3, "The letters become a GARDEN, and are no more (with a FAULT neither)", "what was there stays",
            () -> {
                HowFarShesGot x = Due.garden("kh00;sf00;h20;p9;w9;");
                s.due("another", Due.tell(x, "kg01;"), 1);
                s.due("hedge", x.square(0, 0), 1);
                s.due("gap", x.square(1, 0), 2);
                s.due("HOME", x.count(0), 20);
                s.due("PACE", x.count(1), 9);
                s.due("WARM", x.count(2), 9);
                s.due("SEEKERS", x.count(3), 1);
            });
        s.promise(3, "The letters become a GARDEN, and are no more (with a FAULT neither)",
            "ROW and IMAGE stay", () -> {
                HowFarShesGot x = Due.row(Due.garden("h20;"), 5, 6);
                x.image();
                for (String text : List.of("h21;kr00;", "h22;x", "h22;p0;")) {
                    Due.tell(x, text);
                    s.due("in the ROW behind " + text, x.count(7), 2);
                    s.due("HOME behind " + text, x.count(0), 21);
                }
                s.due("on()", x.on(), 20);
                s.due("roads", x.count(6), 0);
            });
        s.promise(3, "how many STATEMENTS", "from 1 to 32", () -> {
            for (int many = 1; many <= 32; many++) {
                s.tells("p1;".repeat(many), many);
            }
            s.tells("kl00;vl0001;h00;p1;w0;sf00;", 6);
        });
        s.promise(3, "the FAULT (nothing is counted).", "of either kind", () -> {
            for (String text : List.of("", "x", "p0;", "kh14;", "sf00;sf00;sf00;sf00;")) {
                HowFarShesGot x = Due.letters(new HowFarShesGot(), text);
                s.due("below 0", x.garden() < 0 ? 1 : 0, 1);
                for (int what = 11; what <= 16; what++) {
                    s.due("count(" + what + ") behind " + text, x.count(what), 0);
                }
            }
        });
    }
}
