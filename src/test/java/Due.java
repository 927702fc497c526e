/** What the tests share: short ways to tell a garden or a row, and the count of wrong answers. */
final class Due {
    /** Six squares in a row, 0 to 5, with HOME at 0: most answers on it can be counted by hand. */
    static final String CORRIDOR = "h00;vh0635;";

    private int wrong;
    private int asked;

    void due(String call, long got, long want) {
        asked++;
        if (got != want) {
            wrong++;
            System.out.println(call + " answered " + got + ", due is " + want);
        }
    }

    /** A call that must be refused with a number: it answers it, counts it and changes nothing else. */
    void refusals(HowFarShesGot x, String name, int number, int times) {
        due(name + ": refusals " + number, x.count(10 - number), times);
    }

    void end() {
        System.out.println(asked + " answers asked, " + wrong + " wrong");
        if (wrong != 0 || asked == 0) {
            System.exit(1);
        }
    }

    static HowFarShesGot garden(String text) {
        HowFarShesGot x = new HowFarShesGot();
        if (tell(x, text) < 1) {
            throw new IllegalStateException("a test's garden has a fault: " + text);
        }
        return x;
    }

    static HowFarShesGot corridor(String more) {
        return garden(CORRIDOR + more);
    }

    static int tell(HowFarShesGot x, String text) {
        return letters(x, text).garden();
    }

    /** Letters that wait. */
    static HowFarShesGot letters(HowFarShesGot x, String text) {
        for (int i = 0; i < text.length(); i++) {
            x.letter(text.charAt(i));
        }
        return x;
    }

    static HowFarShesGot row(HowFarShesGot x, int... numbers) {
        for (int number : numbers) {
            x.row(number);
        }
        return x;
    }
}
