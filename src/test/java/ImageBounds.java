import java.util.List;
import java.util.function.ToLongFunction;

/** THE IMAGE, REFUSALS, counts, and how long an object is used: promises 29 to 31. */
final class ImageBounds {
    private static final int LEAST = Integer.MIN_VALUE;
    private static final int GREATEST = Integer.MAX_VALUE;
    private static final long LONG = 4000000000000000000L;

    private final Sentences s;
    private final Twins twins;

    ImageBounds(Sentences sentences) {
        s = sentences;
        twins = new Twins(sentences);
    }

    void all() {
        uses();
        image();
        refusals();
        promise29Image();
        promise30On();
        promise31Count();
    }

    private void uses() {
        String words = "An object is used for at most 512 calls after it has been made";
        s.test("What it is", words, "the 512th is answered as the others", () -> {
            HowFarShesGot x = new HowFarShesGot();
            for (int call = 1; call <= 511; call++) {
                s.due("call " + call, x.steps(36), -1);
            }
            s.due("call 512", x.count(11), 511);
        });
        s.test("What it is", words, "the dearest call, 512 times", () -> {
            HowFarShesGot x = Due.garden("p1;sa00;sm35;se05;");
            for (int call = 1; call <= 490; call++) {
                s.due("bestSeeker " + call, x.bestSeeker(0, 999), -9);
            }
        });
    }

    private static int[] state(HowFarShesGot x) {
        int[] state = new int[51];
        for (int what = 0; what <= 8; what++) {
            state[what] = x.count(what);
        }
        for (int square = 0; square < 36; square++) {
            state[9 + square] = x.square(square, 0);
        }
        for (int seeker = 0; seeker < x.count(3); seeker++) {
            state[45 + 2 * seeker] = x.seeker(seeker, 0);
            state[46 + 2 * seeker] = x.seeker(seeker, 1);
        }
        return state;
    }

    private void sameState(String when, int[] got, int[] want, int... but) {
        for (int i = 0; i < want.length; i++) {
            int at = i;
            if (java.util.Arrays.stream(but).noneMatch(one -> one == at)) {
                s.due(when + ", state " + i, got[i], want[i]);
            }
        }
    }

    private void image() {
        s.terms("ON from it all is as then.", "squares, HOME, PACE, WARM and SEEKERS are as then", () -> {
            HowFarShesGot x = Due.garden("h20;kh00;kg01;ks02;kb03;kr04;kr35;p3;w8;sn07;se08;");
            int[] then = state(x);
            x.image();
            Due.tell(x, "vb0035;h00;p9;w0;sf35;");
            x.stand(0, 30);
            x.stand(1, 31);
            s.due("on()", x.on(), 20);
            sameState("behind on()", state(x), then);
        });
        s.terms("THE IMAGE: all that there is, but it, the ROW, letters, REFUSALS",
            "the ROW, letters and REFUSALS are as they are", () -> {
                HowFarShesGot x = Due.row(Due.corridor(""), 1, 2);
                Due.letters(x, "kg");
                x.steps(36);
                x.image();
                Due.row(x, 3);
                Due.letters(x, "05;");
                x.steps(36);
                x.on();
                s.due("in the ROW", x.count(7), 3);
                s.due("letters", x.count(8), 5);
                s.due("refusals -1", x.count(11), 2);
                s.due("the letters are those", x.garden(), 1);
                s.due("a gap came", x.square(5, 0), 2);
                s.due("the ROW is that", x.hold(1), 1);
            });
        s.terms("THE IMAGE: all that there is, but it, the ROW, letters, REFUSALS",
            "the ROW and letters that are no more do not come again", () -> {
                HowFarShesGot x = Due.letters(Due.row(Due.corridor(""), 1, 2), "kg05;");
                x.image();
                x.behind(0);
                x.garden();
                x.on();
                s.due("in the ROW", x.count(7), 0);
                s.due("letters", x.count(8), 0);
                s.due("lawn", x.square(5, 0), 0);
            });
        s.terms("ON from it all is as then.", "of a new object, and to it", () -> {
            HowFarShesGot x = new HowFarShesGot();
            x.image();
            Due.tell(x, "vh1535;h00;p9;w9;sf00;sf01;sf02;");
            s.due("on()", x.on(), 14);
            twins.alike(x, imaged(new HowFarShesGot()), 0, "behind on()");
        });
        s.terms("THE IMAGE: all that there is, but it, the ROW, letters, REFUSALS",
            "it stays as it was, whatever comes behind ON", () -> {
                HowFarShesGot x = Due.garden("sf00;");
                x.image();
                for (int i = 0; i < 3; i++) {
                    x.turnTo(7, 1);
                    x.set(0, 20 + i);
                    x.stand(0, 9);
                    Due.tell(x, "sn01;");
                    s.due("on() again", x.on(), 14);
                    s.due("lawn", x.square(7, 0), 0);
                    s.due("where he stood", x.seeker(0, 1), 0);
                    s.due("SEEKERS", x.count(3), 1);
                }
            });
        s.terms("ON from it all is as then.", "the later one alone", () -> {
            HowFarShesGot x = new HowFarShesGot();
            x.image();
            x.set(0, 20);
            x.image();
            x.set(0, 21);
            s.due("on()", x.on(), 20);
            s.due("on() again", x.on(), 20);
        });
    }

    private static HowFarShesGot imaged(HowFarShesGot x) {
        x.image();
        return x;
    }

    private void refusals() {
        s.terms("REFUSALS (the call answers the number, the first that fits in the order in which it tells them",
            "each is counted once a call, and by its own number alone", () -> {
            HowFarShesGot x = new HowFarShesGot();
            List<ToLongFunction<HowFarShesGot>> calls = List.of(y -> y.square(36, 3), y -> y.square(0, 3),
                HowFarShesGot::on, y -> y.mayBe(-1, 36), y -> y.mayBe(1000, 36));
            int[] numbers = {-1, -2, -3, -4, -6};
            int[] due = new int[7];
            for (int round = 1; round <= 3; round++) {
                for (int i = 0; i < numbers.length; i++) {
                    s.due("call " + i, calls.get(i).applyAsLong(x), numbers[i]);
                    due[-numbers[i]]++;
                    for (int number = 1; number <= 6; number++) {
                        s.due("refusals -" + number, x.count(10 + number), due[number]);
                    }
                }
            }
        });
        s.terms("nothing changes but how many there were)", "answers below 0 that are none are not counted", () -> {
            HowFarShesGot x = Due.corridor("p1;sf00;");
            s.due("steps", x.steps(6), -9);
            s.due("out", x.out(0), -9);
            s.due("first gap", x.firstGap(), -9);
            s.due("search", x.search(0, 999), -9);
            s.due("best seeker", x.bestSeeker(0, 999), -9);
            s.due("together", x.together(999), -9);
            s.due("finds", x.finds(0), -9);
            s.due("judge", x.judge(0), -9);
            s.due("a FAULT", x.garden(), -1000);
            s.due("count", x.count(9), -9);
            for (int what = 11; what <= 16; what++) {
                s.due("count(" + what + ")", x.count(what), 0);
            }
        });
        s.terms("-1 NOBODY: no such SQUARE, SEEKER, KIND of SEEKER.", "each call that can", () -> {
            each(-1, x -> x.square(36, 0), x -> x.turnTo(-1, 0), x -> x.set(0, 36), x -> x.seeker(3, 0),
                x -> x.stand(3, 0), x -> x.steps(36), x -> x.mayBe(0, 36), x -> x.search(3, 0), x -> x.left(-1, 0, 0),
                x -> x.looksAt(3, 0, 0), x -> x.bestSeeker(3, 0));
            eachLong(-1, x -> x.ways(0, 36), x -> x.likely(0, 36, 0));
        });
        s.terms("-2 OTHER: what.", "each call that can", () -> {
            each(-2, x -> x.square(0, 3), x -> x.turnTo(0, 6), x -> x.set(3, 0), x -> x.out(2), x -> x.hold(3),
                x -> x.turning(4, 0), x -> x.finds(3));
            eachLong(-2, x -> x.likely(0, 0, 2));
            s.due("seeker", Due.garden("sf00;").seeker(0, 2), -2);
        });
        s.terms("-3 STATE: it is not as it must be.", "each call that can", () -> {
            twins.refused(Twins.FRESH, -3, "turnTo(14, 1)", x -> x.turnTo(14, 1));
            twins.refused(Twins.RICH, -3, "set(0, 0)", x -> x.set(0, 0));
            twins.refused(Twins.FRESH, -3, "together(0)", x -> x.together(0));
            twins.refused(() -> Due.row(new HowFarShesGot(), 36), -3, "hold(0)", x -> x.hold(0));
            twins.refused(() -> Due.row(new HowFarShesGot(), 35), -3, "finds(0)", x -> x.finds(0));
            twins.refused(Twins.FRESH, -3, "on()", HowFarShesGot::on);
        });
        s.terms("-4 BELOW: a number below the least.", "each call that can", () -> {
            each(-4, x -> x.letter(-1), x -> x.set(1, 0), x -> x.set(2, -1), x -> x.mayBe(-1, 0), x -> x.mayBe(0, -2),
                x -> x.likeliest(-1), x -> x.turning(0, -1), x -> x.row(-1), x -> x.judge(-1), x -> x.behind(-1),
                x -> x.lots(0, 0));
            eachLong(-4, x -> x.ways(-1, 0), x -> x.likely(-1, 0, 0));
        });
        s.terms("-6 ROOM: a number above the greatest, no room.", "each call that can", () -> {
            each(-6, x -> x.letter(256), x -> x.set(1, 10), x -> x.set(2, 10), x -> x.mayBe(1000, 0),
                x -> x.likeliest(21), x -> x.turning(0, 100), x -> x.row(100), x -> x.judge(1000),
                x -> x.behind(1000), x -> x.lots(21, 0));
            eachLong(-6, x -> x.ways(21, 0), x -> x.likely(21, 0, 0));
            twins.refused(Twins.FULL, -6, "letter", x -> x.letter('k'));
            twins.refused(Twins.FULL, -6, "row", x -> x.row(0));
        });
        s.terms("Of longs 4000000000000000000 less them (-1 as 4000000000000000001).", "-1, -2, -4 and -6", () -> {
            HowFarShesGot x = new HowFarShesGot();
            s.due("ways(0, 36)", x.ways(0, 36), 4000000000000000001L);
            s.due("likely(0, 36, 0)", x.likely(0, 36, 0), 4000000000000000001L);
            s.due("likely(0, 0, 2)", x.likely(0, 0, 2), 4000000000000000002L);
            s.due("ways(-1, 0)", x.ways(-1, 0), 4000000000000000004L);
            s.due("likely(-1, 0, 0)", x.likely(-1, 0, 0), LONG + 4);
            s.due("ways(21, 0)", x.ways(21, 0), 4000000000000000006L);
            s.due("likely(21, 0, 0)", x.likely(21, 0, 0), LONG + 6);
            int[] due = {2, 1, 0, 2, 0, 2};
            for (int i = 0; i < due.length; i++) {
                s.due("refusals -" + (i + 1), x.count(11 + i), due[i]);
            }
        });
    }

    @SafeVarargs
    private void each(int number, ToLongFunction<HowFarShesGot>... calls) {
        for (int i = 0; i < calls.length; i++) {
            twins.refused(number, "call " + i, calls[i]);
        }
    }

    @SafeVarargs
    private void eachLong(int number, ToLongFunction<HowFarShesGot>... calls) {
        for (int i = 0; i < calls.length; i++) {
            twins.refusedLong(number, "call of a long " + i, calls[i]);
        }
    }

    private void promise29Image() {
        s.promise(29, "THE IMAGE is taken: HOME.", "HOME 0, 14, 35; nothing else changes", () -> {
            for (int home : new int[] {0, 14, 35}) {
                HowFarShesGot x = Due.garden("kg07;sf03;");
                x.set(0, home);
                int[] then = state(x);
                s.due("image()", x.image(), home);
                sameState("behind image()", state(x), then);
                for (int what = 11; what <= 16; what++) {
                    s.due("count(" + what + ")", x.count(what), 0);
                }
            }
        });
        s.promise(29, "THE IMAGE is taken: HOME.", "twice, behind ON too", () -> {
            HowFarShesGot x = new HowFarShesGot();
            s.due("image()", x.image(), 14);
            x.set(0, 0);
            s.due("image() again", x.image(), 0);
            x.set(0, 1);
            x.on();
            s.due("image() behind on()", x.image(), 0);
        });
    }

    private void promise30On() {
        s.promise(30, "ON from it: HOME.", "HOME 0, 14, 35", () -> {
            for (int home : new int[] {0, 14, 35}) {
                HowFarShesGot x = new HowFarShesGot();
                x.set(0, home);
                x.image();
                x.set(0, 7);
                s.due("on()", x.on(), home);
                s.due("count(0)", x.count(0), home);
            }
        });
        s.promise(30, "-3 there is none.", "before the first, not behind it", () -> {
            twins.refused(Twins.FRESH, -3, "on()", HowFarShesGot::on);
            twins.refused(() -> Due.row(Due.garden("h20;kh00;sf00;"), 7), -3, "on()", HowFarShesGot::on);
            HowFarShesGot x = new HowFarShesGot();
            s.due("none", x.on(), -3);
            s.due("none still", x.on(), -3);
            x.image();
            s.due("one", x.on(), 14);
            s.due("refusals -3", x.count(13), 2);
        });
    }

    private void promise31Count() {
        String words = "0 HOME, 1 PACE, 2 WARM, 3 SEEKERS, 4 HEDGES, 5 GAPS, 6 ROADS, 7 in the ROW, 8 letters";
        s.promise(31, words, "least", () ->
            counts(new HowFarShesGot(), 14, 2, 5, 0, 0, 0, 0, 0, 0));
        s.promise(31, words, "each its own", () -> {
            HowFarShesGot x = Due.garden("h35;p7;w1;sf00;vh0006;vg0708;vr0911;ks12;kb13;");
            Due.letters(Due.row(x, 5, 6, 7, 8), "p1");
            counts(x, 35, 7, 1, 1, 7, 2, 3, 4, 2);
        });
        s.promise(31, words, "greatest", () -> {
            HowFarShesGot x = Due.garden("h35;p9;w9;sf00;sf00;sf00;vh0034;");
            Due.letters(Due.row(x, 0, 0, 0, 0, 0, 0, 0, 0, 0, 0, 0, 0), "p1;".repeat(32));
            counts(x, 35, 9, 9, 3, 35, 0, 0, 12, 96);
            counts(Due.garden("vg0035;"), 14, 2, 5, 0, 0, 36, 0, 0, 0);
            counts(Due.garden("vr0035;h00;"), 0, 2, 5, 0, 0, 0, 36, 0, 0);
        });
        s.promise(31, "11 .. 16 REFUSALS -1 .. -6.", "11 and 16, and 15 that none has", () -> {
            HowFarShesGot x = new HowFarShesGot();
            int[] due = {0, 0, 0, 0, 0, 0};
            x.steps(-1);
            due[0] = 1;
            x.lots(21, 0);
            x.lots(21, 0);
            due[5] = 2;
            for (int i = 0; i < due.length; i++) {
                s.due("count(" + (11 + i) + ")", x.count(11 + i), due[i]);
            }
        });
        s.promise(31, "-9 for another what.", "-1, 9, 10 and 17; it is no refusal", () -> {
            for (int what : new int[] {LEAST, -16, -9, -1, 9, 10, 17, GREATEST}) {
                for (var state : Twins.ALL) {
                    twins.asks(state, -9, "count(" + what + ")", x -> x.count(what));
                }
            }
        });
    }

    private void counts(HowFarShesGot x, int... due) {
        for (int what = 0; what < due.length; what++) {
            s.due("count(" + what + ")", x.count(what), due[what]);
        }
    }
}
