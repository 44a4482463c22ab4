/** Promises 18 to 20, sentence by sentence: the edges of ORDERS, the BEST ORDER and PUSHES. */
public final class EdgeOrderTest {
    private static final Due DUE = new Due("EdgeOrderTest");
    private static final int MIN = Integer.MIN_VALUE;
    private static final int MAX = Integer.MAX_VALUE;

    public static void main(String[] args) {
        Suite.run(EdgeOrderTest.class, DUE);
    }

    private static TollForHesitators fresh() {
        return new TollForHesitators();
    }

    /** Adds one of PACE 8, who takes one look on a WAY of 8; BLIND ones bear twice their LOAD with that NERVE. */
    private static void add(TollForHesitators x, int kind, int nerve, int load, int purse) {
        x.comer(kind, 0, nerve, 8, load, purse);
    }

    /** What comes of the ORDER: freely, pay, BACK, what is paid, who pays, who turns BACK. */
    private static void of(TollForHesitators x, String members, int... due) {
        x.row(7, 0, members.length());
        for (int i = 0; i < members.length(); i++) {
            x.set(7, i, members.charAt(i) - '0');
        }
        for (int what = 0; what <= 5; what++) {
            DUE.is("order " + members + ", what " + what, x.order(7, members.length(), what), due[what]);
        }
    }

    // ---- 18: the ROW

    @Promise(value = 18, says = {"OF an ORDER told by the first n elements (0 to 7) of the ROW in SHELF s:",
        "how many freely (what 0), pay (1), BACK (2), what is paid (3), who pays (4), who turns BACK (5)."})
    private static void orderOfNobody() {
        TollForHesitators x = fresh();
        of(x, "", 0, 0, 0, 0, 0, 0);
        add(x, 0, 0, 0, 5);
        of(x, "", 0, 0, 0, 0, 0, 0);
        x.row(0, 3, 160);
        x.set(0, 0, -1);
        for (int what = 0; what <= 5; what++) {
            DUE.is("none of a full ROW", x.order(0, 0, what), 0);
        }
    }

    @Promise(value = 18, says = {"An ORDER: COMERS one behind the other, each at most once.",
        "OF IT: how many go through freely, pay, turn BACK, what is paid; who pays (bits); who turns BACK (bits)."})
    private static void orderOfOneAndOfSeven() {
        TollForHesitators x = fresh();
        for (int c = 0; c <= 6; c++) {
            // BLIND: 0, 3 and 6 go freely, 1 and 4 pay, 2 and 5 turn BACK, whatever they see
            add(x, 1, c % 3 == 0 ? 30 : 0, c % 3 == 0 ? 0 : 9, c % 3 == 1 ? 5 : 4);
        }
        of(x, "6", 1, 0, 0, 0, 0, 0);
        of(x, "4", 0, 1, 0, 5, 16, 0);
        of(x, "5", 0, 0, 1, 0, 0, 32);
        of(x, "0123456", 3, 2, 2, 10, 2 + 16, 4 + 32);
        of(x, "6543210", 3, 2, 2, 10, 2 + 16, 4 + 32);
        for (int c = 0; c <= 6; c++) {
            x.tell(c, 0, 0);
            x.tell(c, 2, 1);
            x.tell(c, 1, 5);
        }
        of(x, "0123456", 0, 7, 0, 35, 127, 0);
        x.ask(2, 6);
        of(x, "0123456", 0, 0, 7, 0, 0, 127);
        x.ask(2, 99);
        for (int c = 0; c <= 6; c++) {
            x.tell(c, 1, 99);
        }
        of(x, "0123456", 0, 7, 0, 693, 127, 0);
    }

    @Promise(value = 18, says = {"-5 fewer elements, another what; -6 n above 7", "-4 n;"})
    private static void orderOfMoreThanThereIsAndOfMoreThanSeven() {
        TollForHesitators x = fresh();
        for (int c = 0; c <= 6; c++) {
            add(x, 1, 30, 0, 0);
        }
        Due.fill(x, 0, 2, 0, 1, 2, 3, 4, 5, 6);
        Due.fill(x, 1, 2, 0, 1, 2, 3, 4, 5, 6, 0);
        DUE.is("7 of 7", x.order(0, 7, 0), 7);
        DUE.is("8 of 7", x.order(0, 8, 0), -5);
        DUE.is("7 of 8", x.order(1, 7, 0), 7);
        DUE.is("8 of 8", x.order(1, 8, 0), -6);
        DUE.is("9 of 8", x.order(1, 9, 0), -5);
        DUE.is("MAX of 8", x.order(1, MAX, 0), -5);
        DUE.is("-1 of 8", x.order(1, -1, 0), -4);
        DUE.is("MIN of 8", x.order(1, MIN, 0), -4);
        x.row(2, 2, 0);
        DUE.is("0 of 0", x.order(2, 0, 0), 0);
        DUE.is("1 of 0", x.order(2, 1, 0), -5);
        x.row(3, 2, 160);
        DUE.is("160 of 160", x.order(3, 160, 0), -6);
        DUE.is("161 of 160", x.order(3, 161, 0), -5);
        DUE.is("refused -4", x.status(14), 2);
        DUE.is("refused -5", x.status(15), 5);
        DUE.is("refused -6", x.status(16), 2);
    }

    @Promise(value = 18, says = "-5 fewer elements, another what;")
    private static void orderOfAnotherWhat() {
        TollForHesitators x = fresh();
        add(x, 0, 0, 0, 5);
        x.row(0, 2, 1);
        DUE.is("what 0", x.order(0, 1, 0), 0);
        DUE.is("what 5", x.order(0, 1, 5), 0);
        int[] others = {-1, 6, MIN, MAX};
        for (int what : others) {
            DUE.is("what " + what, x.order(0, 1, what), -5);
            DUE.is("what " + what + ", of nobody", x.order(0, 0, what), -5);
        }
        DUE.is("refused -5", x.status(15), 8);
    }

    @Promise(value = 18, says = "a COMER that isn't there, or twice.")
    private static void orderOfOneWhoIsntThere() {
        TollForHesitators x = fresh();
        x.row(0, 2, 1);
        DUE.is("no COMERS yet", x.order(0, 1, 0), -6);
        add(x, 1, 30, 0, 0);
        add(x, 1, 30, 0, 0);
        long[] wrong = {-1, 2, 7, 31, 32, 64, MIN, MAX};
        for (long w : wrong) {
            Due.fill(x, 0, 2, 1, w);
            DUE.is("ahead of " + w, x.order(0, 1, 0), 1);
            DUE.is("the last is " + w, x.order(0, 2, 0), -6);
            Due.fill(x, 0, 2, w, 1);
            DUE.is("the first is " + w, x.order(0, 2, 0), -6);
        }
        DUE.is("refused -6", x.status(16), 17);
    }

    @Promise(value = 18, says = {"a COMER that isn't there, or twice.", "each at most once."})
    private static void orderOfOneTwice() {
        TollForHesitators x = fresh();
        for (int c = 0; c <= 6; c++) {
            add(x, 1, 30, 0, 0);
        }
        long[][] twice = {{0, 0}, {6, 6}, {6, 0, 6}, {0, 1, 2, 3, 4, 5, 0}, {5, 6, 2, 3, 4, 1, 1}};
        for (long[] row : twice) {
            Due.fill(x, 0, 2, row);
            DUE.is("but for the last", x.order(0, row.length - 1, 0), row.length - 1);
            DUE.is("twice", x.order(0, row.length, 0), -6);
        }
    }

    @Promise(value = 18, says = "Elements of a ROW that tell COMERS are taken as ints.")
    private static void orderTakesElementsAsInts() {
        TollForHesitators x = fresh();
        for (int c = 0; c <= 6; c++) {
            add(x, 1, 0, 1 + c, 99);
        }
        for (int sort = 0; sort <= 3; sort++) {
            Due.fill(x, 0, sort, 6, 0);
            DUE.is("sort " + sort, x.order(0, 2, 4), 64 + 1);
        }
        Due.fill(x, 0, 3, (1L << 32) + 6, (-1L << 32) + 2, Long.MIN_VALUE);
        DUE.is("longs", x.order(0, 3, 4), 64 + 4 + 1);
        Due.fill(x, 0, 3, (1L << 32) - 1);
        DUE.is("a long that is -1 as an int", x.order(0, 1, 4), -6);
        Due.fill(x, 0, 2, 256);
        DUE.is("no bytes: 256", x.order(0, 1, 4), -6);
        Due.fill(x, 0, 2, 65536);
        DUE.is("no shorts: 65536", x.order(0, 1, 4), -6);
    }

    @Promise(value = 18, says = "-1; -2; -3; -4 n;")
    private static void orderOfNoRow() {
        TollForHesitators x = fresh();
        add(x, 0, 0, 0, 0);
        x.show(1, 0);
        int[][] calls = {{-1, -1}, {8, -1}, {MIN, -1}, {MAX, -1}, {1, -2}, {0, -3}, {7, -3}};
        for (int[] c : calls) {
            DUE.is("order(" + c[0] + ", 0, 0)", x.order(c[0], 0, 0), c[1]);
        }
        DUE.is("refused -1", x.status(11), 4);
        DUE.is("refused -2", x.status(12), 1);
        DUE.is("refused -3", x.status(13), 2);
    }

    // ---- 18: who pays, who turns BACK

    @Promise(value = 18, says = "Who SLOWS pays TOLL, if he has so much (the gate was shut on him); else he turns BACK.")
    private static void paysWithJustEnough() {
        int[] tolls = {1, 5, 99};
        for (int toll : tolls) {
            TollForHesitators x = fresh();
            add(x, 1, 0, 9, 0);
            x.ask(2, toll);
            x.tell(0, 1, toll);
            of(x, "0", 0, 1, 0, toll, 1, 0);
            x.tell(0, 1, toll - 1);
            of(x, "0", 0, 0, 1, 0, 0, 1);
            x.tell(0, 1, 999);
            of(x, "0", 0, 1, 0, toll, 1, 0);
            x.tell(0, 1, 0);
            of(x, "0", 0, 0, 1, 0, 0, 1);
            x.tell(0, 0, 18);
            of(x, "0", 1, 0, 0, 0, 0, 0);
        }
    }

    @Promise(value = 18, says = {"SEEN: how many he saw shut out less how many he saw go through freely (0 at least):",
        "all who came ahead of him that day, but who turned BACK.",
        "SEEN: who paid less who went through freely, of all ahead of him together."})
    private static void seenIsNothingAtLeast() {
        TollForHesitators x = fresh();
        // 0 to 2 pay, 3 and 4 go freely, 5 turns BACK; 6 bears his look and one SEEN
        for (int c = 0; c <= 5; c++) {
            add(x, 1, c == 3 || c == 4 ? 30 : 0, 9, c == 5 ? 4 : 99);
        }
        add(x, 0, 2, 0, 99);
        of(x, "6", 1, 0, 0, 0, 0, 0);
        of(x, "06", 1, 1, 0, 5, 1, 0);
        of(x, "016", 0, 3, 0, 15, 64 + 3, 0);
        of(x, "0136", 2, 2, 0, 10, 3, 0);
        of(x, "0126", 0, 4, 0, 20, 64 + 7, 0);
        of(x, "01236", 1, 4, 0, 20, 64 + 7, 0);
        of(x, "012346", 3, 3, 0, 15, 7, 0);
        // together, not one by one: 4 and 3 less 0 and 1 are nothing, wherever they come
        of(x, "34016", 3, 2, 0, 10, 3, 0);
        of(x, "30126", 1, 4, 0, 20, 64 + 7, 0);
        // he bears nothing SEEN: those ahead are below 0 never a help
        x.tell(6, 0, 0);
        of(x, "346", 2, 1, 0, 5, 64, 0);
        x.tell(6, 0, 1);
        of(x, "346", 3, 0, 0, 0, 0, 0);
        of(x, "06", 0, 2, 0, 10, 64 + 1, 0);
        of(x, "036", 2, 1, 0, 5, 1, 0);
        // who turns BACK is not seen
        of(x, "56", 1, 0, 1, 0, 0, 32);
        of(x, "5036", 2, 1, 1, 5, 1, 32);
        of(x, "056", 0, 2, 1, 10, 64 + 1, 32);
    }

    @Promise(value = 18, says = "He SLOWS at the first look k (1, 2, .. LOOKS) at which DOUBT, SEEN, BURDEN")
    private static void seenByAllSix() {
        TollForHesitators x = fresh();
        for (int c = 0; c <= 5; c++) {
            add(x, 1, 0, 9, 99);
        }
        add(x, 0, 7, 0, 99);
        of(x, "0123456", 1, 6, 0, 30, 63, 0);
        x.tell(6, 0, 6);
        of(x, "0123456", 0, 7, 0, 35, 127, 0);
        of(x, "123456", 1, 5, 0, 25, 62, 0);
    }

    @Promise(value = 18, says = {"LED: that of whoever is just ahead, if it is greater;",
        "COURAGE, of one who comes just behind one (ahead of one) or nobody: his NERVE;"})
    private static void ledByTheGreaterNerve() {
        TollForHesitators x = fresh();
        // LED: LOAD 4 and his look are above a COURAGE of 4
        add(x, 2, 4, 4, 99);
        add(x, 1, 5, 0, 0);
        add(x, 1, 4, 0, 0);
        of(x, "0", 0, 1, 0, 5, 1, 0);
        of(x, "10", 2, 0, 0, 0, 0, 0);
        of(x, "20", 1, 1, 0, 5, 1, 0);
        of(x, "120", 2, 1, 0, 5, 1, 0);
        of(x, "210", 3, 0, 0, 0, 0, 0);
        of(x, "01", 1, 1, 0, 5, 1, 0);
        x.tell(0, 0, 5);
        of(x, "20", 2, 0, 0, 0, 0, 0);
        of(x, "0", 1, 0, 0, 0, 0, 0);
        x.tell(0, 0, 0);
        x.tell(1, 0, 30);
        of(x, "10", 2, 0, 0, 0, 0, 0);
    }

    @Promise(value = 18, says = {"Details. LED is by the NERVE of whoever is just ahead, as it stands, also if that one is LED or THROWN;",
        "Just ahead and just behind are by the ORDER, also of one who turns BACK."})
    private static void ledByTheNerveAsItStands() {
        TollForHesitators x = fresh();
        add(x, 1, 9, 0, 0);
        add(x, 2, 2, 0, 99);
        add(x, 3, 2, 0, 99);
        // LED: LOAD 4 and his look are above 4
        add(x, 2, 0, 4, 99);
        of(x, "03", 2, 0, 0, 0, 0, 0);
        of(x, "013", 2, 1, 0, 5, 8, 0);
        of(x, "023", 2, 1, 0, 5, 8, 0);
        // one who turns BACK leads all the same
        x.tell(0, 2, 30);
        of(x, "03", 1, 0, 1, 0, 0, 1);
        of(x, "30", 0, 1, 1, 5, 8, 1);
    }

    @Promise(value = 18, says = {"THROWN: as LED, and half of the NERVE of whoever is just behind him (cut) more.",
        "THROWN adds half of the NERVE of whoever is just behind to the greater one of both."})
    private static void thrownByHalfOfTheNerveBehind() {
        TollForHesitators x = fresh();
        // THROWN: LOAD 4 and his look need a COURAGE of 5
        add(x, 3, 2, 4, 99);
        add(x, 1, 0, 0, 0);
        add(x, 1, 3, 0, 0);
        int[][] needs = {{2, 6}, {3, 4}, {4, 2}, {5, 0}, {0, 10}};
        for (int[] n : needs) {
            x.tell(0, 0, n[0]);
            x.tell(1, 0, n[1]);
            of(x, "01", 2, 0, 0, 0, 0, 0);
            if (n[1] > 0) {
                x.tell(1, 0, n[1] - 1);
                of(x, "01", 1, 1, 0, 5, 1, 0);
                of(x, "0", 0, 1, 0, 5, 1, 0);
            }
        }
        // the greater of 2 and 3, and half of 4
        x.tell(0, 0, 2);
        x.tell(1, 0, 4);
        of(x, "201", 3, 0, 0, 0, 0, 0);
        of(x, "01", 1, 1, 0, 5, 1, 0);
        x.tell(1, 0, 3);
        of(x, "201", 2, 1, 0, 5, 1, 0);
        // the one just behind, not one further on
        x.tell(1, 0, 30);
        x.tell(2, 0, 1);
        of(x, "021", 2, 1, 0, 5, 1, 0);
        of(x, "012", 3, 0, 0, 0, 0, 0);
        // also one who turns BACK
        x.tell(1, 2, 30);
        x.comer(1, 0, 10, 8, 9, 0);
        of(x, "03", 1, 0, 1, 0, 0, 8);
    }

    // ---- 19: best

    private static void isBest(TollForHesitators x, int paid, int back, String members) {
        DUE.is("best(-1)", x.best(-1), paid);
        DUE.is("best(-2)", x.best(-2), back);
        for (int i = 0; i < members.length(); i++) {
            DUE.is("best(" + i + ") of " + members, x.best(i), members.charAt(i) - '0');
        }
    }

    @Promise(value = 19, says = {"BEST ORDER of nobody: 0 is paid, 0 turn BACK.",
        "BEST ORDER: what is paid (i NONE), how many turn BACK (i -2), the i-th."})
    private static void bestOfNobody() {
        TollForHesitators x = fresh();
        isBest(x, 0, 0, "");
        DUE.is("best(0)", x.best(0), -15);
        DUE.is("counted as -5", x.status(15), 1);
    }

    @Promise(value = 19, says = "-15 no such i (counted as -5).")
    private static void bestAtTheFirstAndTheLast() {
        TollForHesitators x = fresh();
        for (int c = 0; c <= 6; c++) {
            add(x, 1, 30, 0, 0);
            DUE.is("the first", x.best(0), 0);
            DUE.is("the last", x.best(c), c);
            DUE.is("none behind", x.best(c + 1), -15);
        }
        DUE.is("best(-2)", x.best(-2), 0);
        DUE.is("best(-3)", x.best(-3), -15);
        DUE.is("best(MIN)", x.best(MIN), -15);
        DUE.is("best(MAX)", x.best(MAX), -15);
        DUE.is("counted as -5", x.status(15), 10);
    }

    @Promise(value = 19, says = {"BEST ORDER of all COMERS: by which fewest turn BACK, then least is paid",
        "what is paid; how many turn BACK; the i-th."})
    private static void bestFewestTurnBackAheadOfAll() {
        TollForHesitators x = fresh();
        // six pay at 99 each ahead of the last, who is LED and can't pay, or he turns BACK
        for (int c = 0; c <= 4; c++) {
            add(x, 2, 0, 0, 99);
        }
        add(x, 2, 0, 0, 98);
        add(x, 1, 1, 1, 99);
        x.ask(2, 99);
        // 6 pays and is SEEN; whoever comes behind him SLOWS: behind nobody 5 can't pay
        isBest(x, 6 * 99, 1, "0123456");
        x.tell(6, 0, 2);
        // 6 goes freely, and 5 is led just behind him: the others, behind, pay
        isBest(x, 5 * 99, 0, "6501234");
        x.tell(5, 1, 99);
        isBest(x, 5 * 99, 0, "6012345");
    }

    @Promise(value = 19, says = "BEST ORDER of all COMERS: by which fewest turn BACK, then least is paid")
    private static void bestWhenAllTurnBackAndWhenAllPay() {
        TollForHesitators x = fresh();
        x.ask(2, 99);
        for (int c = 0; c <= 6; c++) {
            add(x, 1, 0, 9, 98);
            isBest(x, 0, c + 1, "0123456".substring(0, c + 1));
        }
        x.tell(3, 1, 99);
        isBest(x, 99, 6, "0123456");
        for (int c = 0; c <= 6; c++) {
            x.tell(c, 1, 99);
        }
        isBest(x, 693, 0, "0123456");
    }

    @Promise(value = 19, says = "BEST ORDER of all COMERS:")
    private static void bestBySeen() {
        // 0 pays; 1 and 2 bear nothing SEEN: one goes freely ahead of him, so that the other does behind him
        TollForHesitators x = fresh();
        add(x, 1, 0, 9, 99);
        add(x, 0, 1, 0, 99);
        add(x, 0, 1, 0, 99);
        isBest(x, 5, 0, "102");
        // 0 turns BACK, and isn't SEEN
        x.tell(0, 1, 4);
        isBest(x, 0, 1, "012");
        // 0 is SEEN to pay, 1 to go freely whatever he sees: together nothing
        x = fresh();
        add(x, 1, 0, 9, 99);
        add(x, 1, 30, 0, 0);
        add(x, 0, 1, 0, 99);
        isBest(x, 5, 0, "012");
        // one who goes freely makes good for one who pays, not for two
        x = fresh();
        add(x, 1, 30, 0, 0);
        add(x, 1, 0, 9, 99);
        add(x, 1, 0, 9, 99);
        add(x, 0, 1, 0, 99);
        isBest(x, 10, 0, "0132");
    }

    @Promise(value = 19, says = "BEST ORDER of all COMERS:")
    private static void bestLedAndThrown() {
        // the first has most NERVE; of two LED the one who can't pay comes just behind him
        TollForHesitators x = fresh();
        add(x, 1, 1, 0, 0);
        add(x, 2, 0, 0, 99);
        add(x, 2, 0, 0, 4);
        isBest(x, 5, 0, "021");
        // the last has most NERVE; of two THROWN the one who can't pay comes just ahead of him
        x = fresh();
        add(x, 3, 0, 0, 4);
        add(x, 3, 0, 0, 99);
        add(x, 1, 2, 0, 0);
        isBest(x, 0, 0, "021");
        x.tell(1, 2, 30);
        isBest(x, 5, 0, "021");
        x.tell(0, 2, 1);
        // just behind the last, whose NERVE of 2 is enough
        isBest(x, 5, 0, "120");
        x.tell(0, 2, 2);
        isBest(x, 5, 1, "012");
    }

    @Promise(value = 19, says = "of several the first by rows:")
    private static void bestTheFirstByRows() {
        TollForHesitators x = fresh();
        for (int c = 0; c <= 6; c++) {
            add(x, 1, c % 2 == 0 ? 30 : 0, 9, 99);
        }
        isBest(x, 15, 0, "0123456");
        // two LED, and one who may lead just one of them
        x = fresh();
        add(x, 2, 0, 0, 99);
        add(x, 2, 0, 0, 99);
        add(x, 1, 1, 0, 99);
        isBest(x, 5, 0, "021");
        x = fresh();
        add(x, 1, 1, 0, 99);
        add(x, 2, 0, 0, 99);
        add(x, 2, 0, 0, 99);
        isBest(x, 5, 0, "012");
    }

    // ---- 20: pushes

    private static void pushed(TollForHesitators x, int bits, int sum) {
        DUE.is("pushes(0)", x.pushes(0), bits);
        DUE.is("pushes(1)", x.pushes(1), sum);
    }

    @Promise(value = 20, says = "PUSHES: COMERS (bits) who are pushed in ORDER by numbers")
    private static void pushesOfNobodyOfOneAndOfSeven() {
        TollForHesitators x = fresh();
        pushed(x, 0, 0);
        for (int c = 0; c <= 6; c++) {
            add(x, 1, 0, 9, 99);
            pushed(x, (2 << c) - 1, c + 1);
        }
        x.ask(3, 99);
        pushed(x, 0, 35);
        x.ask(2, 99);
        pushed(x, 0, 693);
        x.ask(3, 98);
        pushed(x, 127, 686);
    }

    @Promise(value = 20, says = {"PUSHES: bits (what 0), the sum (1).", "-5 another what."})
    private static void pushesOfAnotherWhat() {
        TollForHesitators x = fresh();
        add(x, 1, 0, 9, 99);
        pushed(x, 1, 1);
        int[] others = {-1, 2, MIN, MAX};
        for (int what : others) {
            DUE.is("pushes(" + what + ")", x.pushes(what), -5);
        }
        DUE.is("refused -5", x.status(15), 4);
    }

    @Promise(value = 20, says = "are least, of several the least as bits: bits; the sum.")
    private static void pushesTheLeastOfSeveral() {
        TollForHesitators x = fresh();
        // to push is as dear as to pay
        add(x, 1, 0, 9, 99);
        add(x, 1, 0, 9, 99);
        x.ask(3, 5);
        pushed(x, 0, 10);
        // 2 pays if he sees two: one of both is to be pushed, at more than TOLL
        add(x, 0, 2, 0, 99);
        x.ask(3, 6);
        pushed(x, 1, 6 + 5);
        x.ask(3, 9);
        pushed(x, 1, 9 + 5);
        x.ask(3, 10);
        pushed(x, 0, 15);
        x.ask(3, 4);
        pushed(x, 3, 8);
    }

    @Promise(value = 20, says = "by which PUSH for each and all that is paid together, and 1000 for each who turns BACK, are least")
    private static void pushesWhoTurnBack() {
        TollForHesitators x = fresh();
        x.ask(3, 99);
        for (int c = 0; c <= 6; c++) {
            add(x, 1, 0, 9, 4);
            pushed(x, (2 << c) - 1, 99 * (c + 1));
        }
        x.tell(3, 1, 5);
        pushed(x, 127 - 8, 99 * 6 + 5);
    }

    @Promise(value = 20, says = {"(a pushed one goes through freely, whatever):",
        "A pushed one counts as gone through freely for those behind him."})
    private static void pushedAreSeenToGoFreely() {
        TollForHesitators x = fresh();
        // 0 and 1 pay; 2 to 6 bear nothing SEEN
        add(x, 1, 0, 9, 99);
        add(x, 1, 0, 9, 99);
        for (int c = 2; c <= 6; c++) {
            add(x, 0, 1, 0, 99);
        }
        x.ask(3, 29);
        pushed(x, 1, 29 + 5);
        x.ask(3, 30);
        pushed(x, 0, 35);
        // the first of them, who would not SLOW, is pushed for nothing
        x.tell(0, 0, 18);
        pushed(x, 0, 5);
        DUE.is("nothing is changed", x.status(7), 7 * 99);
    }

    @Promise(value = {20, 30}, says = "who are pushed in ORDER by numbers")
    private static void byNumbersWhateverWasToldAhead() {
        TollForHesitators x = fresh();
        add(x, 1, 0, 9, 99);
        add(x, 0, 1, 0, 99);
        add(x, 0, 1, 0, 99);
        // 0 pays, 1 and 2 see it
        of(x, "210", 2, 1, 0, 5, 1, 0);
        pushed(x, 1, 1);
        of(x, "2", 1, 0, 0, 0, 0, 0);
        x.ask(3, 99);
        pushed(x, 0, 15);
        of(x, "21", 2, 0, 0, 0, 0, 0);
        x.seed(0);
        DUE.is("days(1) in a FOG of 0", x.days(1), 15);
    }

    @Promise(value = 20, says = "who are pushed in ORDER by numbers")
    private static void pushedStandWhereTheyStand() {
        TollForHesitators x = fresh();
        // LED by the one just ahead, pushed or not; THROWN by the one just behind
        add(x, 3, 0, 0, 99);
        add(x, 1, 2, 9, 99);
        add(x, 2, 0, 1, 99);
        pushed(x, 2, 1);
        x.ask(3, 99);
        pushed(x, 0, 5);
        x.tell(1, 0, 1);
        pushed(x, 0, 15);
        x.tell(0, 0, 1);
        x.ask(3, 6);
        pushed(x, 0, 10);
        x.ask(3, 4);
        pushed(x, 6, 8);
    }
}
