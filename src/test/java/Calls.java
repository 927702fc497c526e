/** A call by its name, on the program and on the plain model; of fewer arguments the rest are nothing. */
final class Calls {
    private Calls() {
    }

    static long program(HowFarShesGot x, String name, int a, int b, int c) {
        switch (name) {
            case "letter": return x.letter(a);
            case "garden": return x.garden();
            case "square": return x.square(a, b);
            case "turnTo": return x.turnTo(a, b);
            case "set": return x.set(a, b);
            case "seeker": return x.seeker(a, b);
            case "stand": return x.stand(a, b);
            case "steps": return x.steps(a);
            case "mayBe": return x.mayBe(a, b);
            case "out": return x.out(a);
            case "shut": return x.shut();
            case "firstGap": return x.firstGap();
            case "search": return x.search(a, b);
            case "left": return x.left(a, b, c);
            case "looksAt": return x.looksAt(a, b, c);
            case "bestSeeker": return x.bestSeeker(a, b);
            case "together": return x.together(a);
            case "hold": return x.hold(a);
            case "ways": return x.ways(a, b);
            case "likely": return x.likely(a, b, c);
            case "likeliest": return x.likeliest(a);
            case "turning": return x.turning(a, b);
            case "finds": return x.finds(a);
            case "row": return x.row(a);
            case "judge": return x.judge(a);
            case "behind": return x.behind(a);
            case "lots": return x.lots(a, b);
            case "image": return x.image();
            case "on": return x.on();
            default: return x.count(a);
        }
    }

    static long model(PlainModel y, String name, int a, int b, int c) {
        switch (name) {
            case "letter": return y.letter(a);
            case "garden": return y.garden();
            case "square": return y.square(a, b);
            case "turnTo": return y.turnTo(a, b);
            case "set": return y.set(a, b);
            case "seeker": return y.seeker(a, b);
            case "stand": return y.stand(a, b);
            case "steps": return y.steps(a);
            case "mayBe": return y.mayBe(a, b);
            case "out": return y.out(a);
            case "shut": return y.shut();
            case "firstGap": return y.firstGap();
            case "search": return y.search(a, b);
            case "left": return y.left(a, b, c);
            case "looksAt": return y.looksAt(a, b, c);
            case "bestSeeker": return y.bestSeeker(a, b);
            case "together": return y.together(a);
            case "hold": return y.hold(a);
            case "ways": return y.ways(a, b);
            case "likely": return y.likely(a, b, c);
            case "likeliest": return y.likeliest(a);
            case "turning": return y.turning(a, b);
            case "finds": return y.finds(a);
            case "row": return y.row(a);
            case "judge": return y.judge(a);
            case "behind": return y.behind(a);
            case "lots": return y.lots(a, b);
            case "image": return y.image();
            case "on": return y.on();
            default: return y.count(a);
        }
    }
}
