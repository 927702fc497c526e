/** Promises 29 to 31: the image, on from it, and counts. */
public final class ImageTest {
    private static final Due DUE = new Due();

    public static void main(String[] args) {
        promise29Image();
        promise30On();
        promise31Count();
        DUE.end();
    }

    private static void due(String call, long got, long want) {
        DUE.due(call, got, want);
    }

    private static void promise29Image() {
        HowFarShesGot x = Due.garden("h20;kh00;");
        due("image", x.image(), 20);
        Due.tell(x, "h21;kr00;");
        due("another image", x.image(), 21);
        Due.tell(x, "h22;");
        due("on from the later", x.on(), 21);
        due("with its road", x.count(6), 1);
        due("and no hedge", x.count(4), 0);
    }

    private static void promise30On() {
        HowFarShesGot x = Due.garden("h20;kh00;kg01;ks02;kb03;kr04;p3;w8;sn07;se08;");
        due("none", x.on(), -3);
        DUE.refusals(x, "on", -3, 1);
        x.image();
        Due.row(x, 1, 2, 3);
        x.letter('k');
        x.letter(-1);
        x.stand(0, 30);
        x.set(1, 1);
        x.set(2, 1);
        for (int square = 0; square < 5; square++) {
            x.turnTo(square, 0);
        }
        x.set(0, 0);
        x.turnTo(20, 1);
        due("on", x.on(), 20);
        due("home", x.count(0), 20);
        due("pace", x.count(1), 3);
        due("warm", x.count(2), 8);
        int[] kinds = {1, 2, 3, 4, 5, 0};
        for (int square = 0; square < kinds.length; square++) {
            due("kind of " + square, x.square(square, 0), kinds[square]);
        }
        due("kind of 20", x.square(20, 0), 0);
        due("seekers", x.count(3), 2);
        due("where he stands", x.seeker(0, 1), 7);
        due("the other's kind", x.seeker(1, 0), 3);
        due("the row is not of it", x.count(7), 3);
        due("letters are not of it", x.count(8), 1);
        due("refusals are not of it", x.count(14), 1);
        due("refusals before it stay", x.count(13), 1);
        x.set(0, 5);
        x.stand(0, 9);
        due("on again", x.on(), 20);
        due("he stands there again", x.seeker(0, 1), 7);
        HowFarShesGot y = new HowFarShesGot();
        y.image();
        Due.tell(y, "sf00;sf01;");
        y.on();
        due("seekers that came later are gone", y.count(3), 0);
        due("and are nobody", y.seeker(0, 0), -1);
    }

    private static void promise31Count() {
        HowFarShesGot x = Due.garden("h35;p7;w1;sf00;vh0006;vg0708;vr0911;ks12;kb13;");
        Due.row(x, 5, 6, 7, 8);
        x.letter('p');
        x.letter('1');
        int[] counts = {35, 7, 1, 1, 7, 2, 3, 4, 2, -9, -9, 0, 0, 0, 0, 0, 0, -9, -9};
        for (int what = 0; what < counts.length; what++) {
            due("count " + what, x.count(what), counts[what]);
        }
        due("count -1", x.count(-1), -9);
        due("count least int", x.count(Integer.MIN_VALUE), -9);
        due("count greatest int", x.count(Integer.MAX_VALUE), -9);
        x.steps(36);
        x.out(2);
        x.on();
        x.row(-1);
        x.row(100);
        x.ways(-1, 0);
        x.ways(21, 0);
        x.likely(0, 0, 2);
        int[] refusals = {1, 2, 1, 2, 0, 2};
        for (int i = 0; i < refusals.length; i++) {
            due("refusals -" + (i + 1), x.count(11 + i), refusals[i]);
        }
        due("what a refusal changes", x.count(7), 4);
    }
}
