/** The program and the plain model, which hear the same calls and must answer the same. */
final class Both {
    private final HowFarShesGot x = new HowFarShesGot();
    private final PlainModel y = new PlainModel();
    private final StringBuilder log = new StringBuilder();
    private int calls;

    int calls() {
        return calls;
    }

    /** Ends the test at the first answer that differs, and tells the whole run that led to it. */
    void hear(String name, int a, int b, int c) {
        calls++;
        log.append(name).append(' ').append(a).append(' ').append(b).append(' ').append(c);
        long due = Calls.model(y, name, a, b, c);
        long got = Calls.program(x, name, a, b, c);
        log.append(" = ").append(due).append('\n');
        if (got != due) {
            System.out.println(log);
            System.out.println("the last answer was " + got + ", the plain model's is " + due);
            System.exit(1);
        }
    }

    void hearLetters(String text) {
        for (int i = 0; i < text.length(); i++) {
            hear("letter", text.charAt(i), 0, 0);
        }
    }
}
