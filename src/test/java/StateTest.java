/** Promises 1 to 8: a new object, letters, gardens and what becomes another one. */
public final class StateTest {
    private static final Due DUE = new Due();

    public static void main(String[] args) {
        promise1NewObject();
        promise2Letter();
        promise3Garden();
        promise3LetterFaults();
        promise3StatementFaults();
        promise3FaultChangesNothing();
        promise4Square();
        promise5TurnTo();
        promise6Set();
        promise7Seeker();
        promise8Stand();
        DUE.end();
    }

    private static void due(String call, long got, long want) {
        DUE.due(call, got, want);
    }

    private static void promise1NewObject() {
        HowFarShesGot x = new HowFarShesGot();
        due("new home", x.count(0), 14);
        due("new pace", x.count(1), 2);
        due("new warm", x.count(2), 5);
        for (int what = 3; what <= 8; what++) {
            due("new count " + what, x.count(what), 0);
        }
        for (int what = 11; what <= 16; what++) {
            due("new refusals " + what, x.count(what), 0);
        }
        for (int square = 0; square < 36; square++) {
            due("new kind of " + square, x.square(square, 0), 0);
        }
        due("new image", x.on(), -3);
    }

    private static void promise2Letter() {
        HowFarShesGot x = new HowFarShesGot();
        due("letter 0", x.letter(0), 1);
        due("letter 255", x.letter(255), 2);
        due("letter -1", x.letter(-1), -4);
        due("letter 256", x.letter(256), -6);
        due("letter least int", x.letter(Integer.MIN_VALUE), -4);
        due("letter greatest int", x.letter(Integer.MAX_VALUE), -6);
        due("letters", x.count(8), 2);
        for (int i = 3; i <= 96; i++) {
            due("letter " + i, x.letter('k'), i);
        }
        due("letter 97", x.letter('k'), -6);
        due("letter -1 when full", x.letter(-1), -4);
        due("letters when full", x.count(8), 96);
        DUE.refusals(x, "letter", -4, 3);
        DUE.refusals(x, "letter", -6, 3);
    }

    private static void promise3Garden() {
        HowFarShesGot x = new HowFarShesGot();
        due("a garden", Due.tell(x, "kh00;vg0103;h35;p9;w0;sa07;"), 6);
        due("letters are no more", x.count(8), 0);
        due("k", x.square(0, 0), 1);
        for (int square = 1; square <= 3; square++) {
            due("v", x.square(square, 0), 2);
        }
        due("behind v", x.square(4, 0), 0);
        due("h", x.count(0), 35);
        due("p", x.count(1), 9);
        due("w", x.count(2), 0);
        due("s kind", x.seeker(0, 0), 4);
        due("s square", x.seeker(0, 1), 7);
        due("another garden comes on top", Due.tell(x, "vs0202;sf35;"), 2);
        due("v of one square", x.square(2, 0), 3);
        due("what was stays", x.square(3, 0), 2);
        due("a seeker more", x.count(3), 2);
        due("whole garden", Due.tell(x, "vl0035;"), 1);
        due("whole garden is lawn", x.count(4) + x.count(5) + x.count(6), 0);
        String kinds = "lhgsbr";
        String seekers = "fnmea";
        for (int kind = 0; kind < kinds.length(); kind++) {
            due("kind letter", Due.tell(x, "k" + kinds.charAt(kind) + "09;"), 1);
            due("kind " + kind, x.square(9, 0), kind);
        }
        for (int kind = 0; kind < seekers.length(); kind++) {
            HowFarShesGot y = Due.garden("s" + seekers.charAt(kind) + "00;");
            due("seeker kind " + kind, y.seeker(0, 0), kind);
        }
        due("96 letters", Due.tell(x, "p1;".repeat(32)), 32);
        due("a later statement stands", Due.tell(x, "p3;p4;kh00;kg00;"), 4);
        due("the later pace", x.count(1), 4);
        due("the later kind", x.square(0, 0), 2);
    }

    private static void promise3LetterFaults() {
        fault("", -1000);
        fault("x", -1000);
        fault(";", -1000);
        fault("k", -1001);
        fault("kx", -1001);
        fault("kf00;", -1001);
        fault("kh", -1002);
        fault("kh0", -1003);
        fault("kh00", -1004);
        fault("khx0;", -1002);
        fault("kh0;", -1003);
        fault("kh000", -1004);
        fault("vh0102", -1006);
        fault("vh01;", -1004);
        fault("vx0102;", -1001);
        fault("h0", -1002);
        fault("h0;", -1002);
        fault("h00:", -1003);
        fault("p", -1001);
        fault("p1", -1002);
        fault("p12;", -1002);
        fault("w/;", -1001);
        fault("w:;", -1001);
        fault("sl00;", -1001);
        fault("sf0", -1003);
        fault("p1;x", -1003);
        fault("p1;;", -1003);
        fault("p1; ", -1003);
        fault("K", -1000);
        fault("\u0000", -1000);
        fault("p1;k\u0000", -1004);
        fault("p1;s\u00e9", -1004);
        // A letter's fault is told before a statement's, wherever they stand.
        fault("p0;x", -1003);
        fault("kh14;p", -1006);
        fault("p1;".repeat(31) + "kh0", -1096);
    }

    private static void promise3StatementFaults() {
        fault("kh36;", -2000);
        fault("kh99;", -2000);
        fault("kh14;", -2000);
        fault("vl0504;", -2000);
        fault("vl3536;", -2000);
        fault("vl3636;", -2000);
        fault("vh1414;", -2000);
        fault("vh0014;", -2000);
        fault("vh1435;", -2000);
        fault("h36;", -2000);
        fault("p0;", -2000);
        fault("sf36;", -2000);
        fault("p1;p0;p0;", -2003);
        fault("kh00;h00;", -2005);
        fault("h00;kh14;kh00;", -2009);
        fault("sf00;sf00;sf00;sf00;", -2015);
        HowFarShesGot x = Due.garden("vl0035;h00;kh14;");
        due("home may be shut no more", x.count(4), 1);
        due("a hedge may become a gap and then home", Due.tell(x, "kg14;h14;"), 2);
        due("home told on a road", Due.tell(x, "vr0035;h35;"), 2);
        due("the garden before counts", Due.tell(x, "kh35;"), -2000);
        HowFarShesGot y = Due.garden("sf00;sn01;");
        due("seekers before count", Due.tell(y, "sm02;se03;"), -2005);
        due("none of them came", y.count(3), 2);
    }

    private static void fault(String text, int due) {
        HowFarShesGot x = new HowFarShesGot();
        due("garden " + text, Due.tell(x, text), due);
        due("letters are no more behind " + text, x.count(8), 0);
        for (int what = 11; what <= 16; what++) {
            due("nothing is counted", x.count(what), 0);
        }
    }

    private static void promise3FaultChangesNothing() {
        HowFarShesGot x = Due.garden("kg03;sa07;");
        due("faulty", Due.tell(x, "kr00;vh0405;h20;p7;w7;sf00;p0;"), -2027);
        due("kind stays", x.square(0, 0), 0);
        due("kinds stay", x.square(4, 0), 0);
        due("gap stays", x.square(3, 0), 2);
        due("home stays", x.count(0), 14);
        due("pace stays", x.count(1), 2);
        due("warm stays", x.count(2), 5);
        due("seekers stay", x.count(3), 1);
        due("faulty in letters", Due.tell(x, "kr00;q"), -1005);
        due("kind stays still", x.square(0, 0), 0);
    }

    private static void promise4Square() {
        HowFarShesGot x = Due.garden("kl00;kh01;kg02;ks03;kb04;kr05;");
        int[] canBe = {1, 0, 1, 1, 1, 1};
        int[] off = {1, 0, 1, 2, 2, 0};
        for (int kind = 0; kind < 6; kind++) {
            due("kind", x.square(kind, 0), kind);
            due("can be on kind " + kind, x.square(kind, 1), canBe[kind]);
            due("steps off kind " + kind, x.square(kind, 2), off[kind]);
        }
        for (int warm = 0; warm <= 9; warm++) {
            x.set(2, warm);
            due("steps off the sun at " + warm, x.square(3, 2), 1 + warm / 3);
            due("steps off a bed at " + warm, x.square(4, 2), 2);
        }
        due("square 35", x.square(35, 2), 1);
        due("square -1", x.square(-1, 0), -1);
        due("square 36", x.square(36, 0), -1);
        due("square 36, what 9", x.square(36, 9), -1);
        due("what 3", x.square(0, 3), -2);
        due("what -1", x.square(0, -1), -2);
        DUE.refusals(x, "square", -1, 3);
        DUE.refusals(x, "square", -2, 2);
    }

    private static void promise5TurnTo() {
        HowFarShesGot x = new HowFarShesGot();
        int was = 0;
        for (int kind = 5; kind >= 0; kind--) {
            due("turn to " + kind, x.turnTo(35, kind), was);
            due("it is " + kind, x.square(35, 0), kind);
            was = kind;
        }
        due("home to a gap", x.turnTo(14, 2), 0);
        due("home to a hedge", x.turnTo(14, 1), -3);
        due("home stays a gap", x.square(14, 0), 2);
        due("square -1", x.turnTo(-1, 1), -1);
        due("square 36, kind 6", x.turnTo(36, 6), -1);
        due("home, kind 6", x.turnTo(14, 6), -2);
        due("kind -1", x.turnTo(0, -1), -2);
        due("neighbours stay", x.square(13, 0) + x.square(15, 0), 0);
        DUE.refusals(x, "turnTo", -1, 2);
        DUE.refusals(x, "turnTo", -2, 2);
        DUE.refusals(x, "turnTo", -3, 1);
    }

    private static void promise6Set() {
        HowFarShesGot x = Due.garden("kh00;");
        due("home", x.set(0, 35), 14);
        due("home was", x.set(0, 1), 35);
        due("home 0 is a hedge", x.set(0, 0), -3);
        due("home 36", x.set(0, 36), -1);
        due("home -1", x.set(0, -1), -1);
        due("home is", x.count(0), 1);
        due("pace", x.set(1, 9), 2);
        due("pace was", x.set(1, 1), 9);
        due("pace 0", x.set(1, 0), -4);
        due("pace 10", x.set(1, 10), -6);
        due("pace is", x.count(1), 1);
        due("warm", x.set(2, 9), 5);
        due("warm was", x.set(2, 0), 9);
        due("warm -1", x.set(2, -1), -4);
        due("warm 10", x.set(2, 10), -6);
        due("warm is", x.count(2), 0);
        due("what 3", x.set(3, -1), -2);
        due("what -1", x.set(-1, 99), -2);
        DUE.refusals(x, "set", -1, 2);
        DUE.refusals(x, "set", -2, 2);
        DUE.refusals(x, "set", -3, 1);
        DUE.refusals(x, "set", -4, 2);
        DUE.refusals(x, "set", -6, 2);
        x.turnTo(2, 2);
        due("home on a gap", x.set(0, 2), 1);
        x.turnTo(3, 5);
        due("home on a road", x.set(0, 3), 2);
    }

    private static void promise7Seeker() {
        HowFarShesGot x = new HowFarShesGot();
        due("no seeker", x.seeker(0, 0), -1);
        Due.tell(x, "sf03;sm35;sa00;");
        due("kind of 0", x.seeker(0, 0), 0);
        due("square of 0", x.seeker(0, 1), 3);
        due("kind of 1", x.seeker(1, 0), 2);
        due("square of 1", x.seeker(1, 1), 35);
        due("kind of 2", x.seeker(2, 0), 4);
        due("square of 2", x.seeker(2, 1), 0);
        due("seeker 3, what 2", x.seeker(3, 2), -1);
        due("seeker -1", x.seeker(-1, 0), -1);
        due("what 2", x.seeker(0, 2), -2);
        due("what -1", x.seeker(2, -1), -2);
        DUE.refusals(x, "seeker", -1, 3);
        DUE.refusals(x, "seeker", -2, 2);
    }

    private static void promise8Stand() {
        HowFarShesGot x = Due.garden("kh07;sf03;sn04;");
        due("stand", x.stand(0, 35), 3);
        due("stand again", x.stand(0, 7), 35);
        due("he stands there", x.seeker(0, 1), 7);
        due("the other stays", x.seeker(1, 1), 4);
        due("no seeker", x.stand(2, 0), -1);
        due("seeker -1", x.stand(-1, 0), -1);
        due("square 36", x.stand(0, 36), -1);
        due("square -1", x.stand(0, -1), -1);
        due("he stands there still", x.seeker(0, 1), 7);
        DUE.refusals(x, "stand", -1, 4);
    }
}
