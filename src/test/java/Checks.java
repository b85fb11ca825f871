/** What the tests share: counting answers that aren't due, and objects with a piece. */
final class Checks {
    private int wrong = 0;
    private int made = 0;

    void due(String call, long got, long want) {
        made++;
        if (got != want) {
            wrong++;
            System.out.println(call + " answered " + got + ", due is " + want);
        }
    }

    void end() {
        System.out.println(made + " checks, " + wrong + " wrong");
        if (wrong != 0 || made == 0) {
            System.exit(1);
        }
    }

    static QuartetNods typed(String text) {
        QuartetNods x = new QuartetNods();
        type(x, text);
        return x;
    }

    static void type(QuartetNods x, String text) {
        for (int i = 0; i < text.length(); i++) {
            x.letter(text.charAt(i));
        }
    }

    /** kindsAndTired: KIND and TIRED of each player in turn. */
    static QuartetNods of(String text, int... kindsAndTired) {
        QuartetNods x = typed(text);
        x.piece();
        for (int i = 0; i + 1 < kindsAndTired.length; i += 2) {
            x.player(kindsAndTired[i], kindsAndTired[i + 1]);
        }
        return x;
    }
}
