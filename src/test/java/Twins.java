import java.util.List;
import java.util.function.Supplier;
import java.util.function.ToLongFunction;

/**
 * Two objects that hear the same calls, but for one that only the first hears: what that call changes is
 * where they differ.
 */
final class Twins {
    private static final long LONG = 4000000000000000000L;
    private static final String GARDEN = "vh0005;kg07;ks08;kb09;kr35;h20;p3;w7;sn01;";
    private static final String MORE = "h21;p4;w2;sm12;kg10;kr11;";

    /** As it is made; with something of all; and with no room for more. */
    static final Supplier<HowFarShesGot> FRESH = HowFarShesGot::new;
    static final Supplier<HowFarShesGot> RICH = Twins::rich;
    static final Supplier<HowFarShesGot> FULL = Twins::full;
    static final List<Supplier<HowFarShesGot>> ALL = List.of(FRESH, RICH, FULL);

    private final Sentences s;

    Twins(Sentences s) {
        this.s = s;
    }

    private static HowFarShesGot rich() {
        HowFarShesGot x = Due.garden(GARDEN);
        x.image();
        Due.tell(x, MORE);
        Due.row(x, 8, 3, 20, 9);
        return Due.letters(x, "kb06;");
    }

    private static HowFarShesGot full() {
        HowFarShesGot x = Due.garden(GARDEN);
        x.image();
        Due.tell(x, MORE + "sa34;");
        Due.row(x, 8, 3, 20, 9, 9, 12, 7, 20, 14, 33, 22, 34);
        return Due.letters(x, "kb06;h21;" + "p1;".repeat(29));
    }

    /** A call that is refused: it answers its number, that is counted once more, and all else is as before. */
    void refused(Supplier<HowFarShesGot> state, int number, String name, ToLongFunction<HowFarShesGot> call) {
        differ(state, number, number, name, call);
    }

    void refusedLong(Supplier<HowFarShesGot> state, int number, String name, ToLongFunction<HowFarShesGot> call) {
        differ(state, LONG - number, number, name, call);
    }

    /** In each of the three states. */
    void refused(int number, String name, ToLongFunction<HowFarShesGot> call) {
        ALL.forEach(state -> refused(state, number, name, call));
    }

    void refusedLong(int number, String name, ToLongFunction<HowFarShesGot> call) {
        ALL.forEach(state -> refusedLong(state, number, name, call));
    }

    /** A call that only asks: it answers, no refusal is counted, and all is as before. */
    void asks(Supplier<HowFarShesGot> state, long want, String name, ToLongFunction<HowFarShesGot> call) {
        differ(state, want, 0, name, call);
    }

    private void differ(Supplier<HowFarShesGot> state, long want, int number, String name,
                        ToLongFunction<HowFarShesGot> call) {
        HowFarShesGot x = state.get();
        HowFarShesGot y = state.get();
        s.due(name, call.applyAsLong(x), want);
        alike(x, y, number, "behind " + name);
    }

    /** That two are alike in all that can be asked, but for one more refusal of a number (0 none). */
    void alike(HowFarShesGot x, HowFarShesGot y, int number, String when) {
        refusals(x, y, number, when);
        garden(x, y, when);
        for (int what = 0; what < 3; what++) {
            s.due(when + ", hold(" + what + ")", x.hold(what), y.hold(what));
            s.due(when + ", finds(" + what + ")", x.finds(what), y.finds(what));
        }
        s.due(when + ", judge(5)", x.judge(5), y.judge(5));
        s.due(when + ", garden()", x.garden(), y.garden());
        garden(x, y, when + " and garden()");
        s.due(when + ", behind(5)", x.behind(5), y.behind(5));
        s.due(when + ", on()", x.on(), y.on());
        garden(x, y, when + " and on()");
        refusals(x, y, number, when + " and all");
    }

    private void refusals(HowFarShesGot x, HowFarShesGot y, int number, String when) {
        for (int i = 1; i <= 6; i++) {
            s.due(when + ", refusals -" + i, x.count(10 + i), y.count(10 + i) + (i == -number ? 1 : 0));
        }
    }

    private void garden(HowFarShesGot x, HowFarShesGot y, String when) {
        for (int what = 0; what <= 8; what++) {
            s.due(when + ", count(" + what + ")", x.count(what), y.count(what));
        }
        for (int square = 0; square < 36; square++) {
            s.due(when + ", square(" + square + ", 0)", x.square(square, 0), y.square(square, 0));
        }
        for (int seeker = 0; seeker < y.count(3); seeker++) {
            s.due(when + ", seeker(" + seeker + ", 0)", x.seeker(seeker, 0), y.seeker(seeker, 0));
            s.due(when + ", seeker(" + seeker + ", 1)", x.seeker(seeker, 1), y.seeker(seeker, 1));
        }
    }
}
