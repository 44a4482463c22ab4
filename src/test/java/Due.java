/** Counts the answers that are as due and prints those that are not. */
final class Due {
    private final String name;
    private String about = "";
    private int good = 0;
    private int wrong = 0;

    Due(String name) {
        this.name = name;
    }

    /** Which test asks from now on. */
    void about(String test) {
        about = test.isEmpty() ? "" : test + ": ";
    }

    int asked() {
        return good + wrong;
    }

    void is(String call, long got, long want) {
        if (got == want) {
            good++;
            return;
        }
        wrong++;
        if (wrong <= 20) {
            System.out.println(name + ": " + about + call + " answered " + got + ", due is " + want);
        }
    }

    void holds(String what, boolean so) {
        is(what, so ? 1 : 0, 1);
    }

    boolean failed() {
        return wrong > 0;
    }

    /** Closes the test: tells the count, and ends with exit code 1 if an answer was wrong. */
    void end() {
        System.out.println(name + ": " + good + " as due, " + wrong + " not");
        if (wrong > 0 || good == 0) {
            System.exit(1);
        }
    }

    /** Puts the values into a new ROW of a SORT. */
    static void fill(TollForHesitators x, int s, int sort, long... values) {
        x.row(s, sort, values.length);
        for (int i = 0; i < values.length; i++) {
            x.set(s, i, values[i]);
        }
    }

    /** Puts a text, letter by letter, into a new ROW of a SORT. */
    static void write(TollForHesitators x, int s, int sort, String text) {
        x.row(s, sort, text.length());
        for (int i = 0; i < text.length(); i++) {
            x.set(s, i, text.charAt(i));
        }
    }
}
