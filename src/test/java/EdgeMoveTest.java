/** Promises 32 to 36, sentence by sentence: the edges of MOVES and THE TRACE, of THE IMAGE and of status. */
public final class EdgeMoveTest {
    private static final Due DUE = new Due("EdgeMoveTest");
    private static final int MIN = Integer.MIN_VALUE;
    private static final int MAX = Integer.MAX_VALUE;

    public static void main(String[] args) {
        Suite.run(EdgeMoveTest.class, DUE);
    }

    private static TollForHesitators fresh() {
        return new TollForHesitators();
    }

    /** With COMERS 0 to 6, of the KINDS of these numbers, each with the same a. */
    private static TollForHesitators ofSeven(int a) {
        TollForHesitators x = fresh();
        for (int kind = 0; kind <= 6; kind++) {
            x.comer(kind, a, 0, 1, 0, 0);
        }
        return x;
    }

    private static void acted(TollForHesitators x, int comer, int move, int v, int due, int... bodies) {
        String call = "act(" + comer + ", " + move + ", " + v + ")";
        DUE.is(call, x.act(comer, move, v), due);
        DUE.is("bodies of " + call, x.status(9), bodies.length);
        for (int i = 0; i < bodies.length; i++) {
            DUE.is("trace(" + i + ") of " + call, x.trace(i), bodies[i]);
        }
        DUE.is("trace(" + bodies.length + ") of " + call, x.trace(bodies.length), -1);
    }

    // ---- 32: the bodies

    @Promise(value = {32, 33}, says = {"BODIES, each with its number: COMER: 10 walks: x + m.", "11 looks: walks(x) * 2.", "12 stops: looks(x) ^ walks(x - k)."})
    private static void bodiesOfComer() {
        TollForHesitators x = fresh();
        x.comer(0, 9, 0, 1, 0, 0);
        x.comer(0, 2, 0, 1, 0, 0);
        acted(x, 1, 0, 5, 6, 10);
        acted(x, 1, 1, 5, 12, 11, 10);
        // 12 and 4
        acted(x, 1, 2, 5, 8, 12, 11, 10, 10);
        // 10 and -4
        acted(x, 0, 2, 5, 10 ^ -4, 12, 11, 10, 10);
    }

    @Promise(value = {32, 33}, says = {"BLIND: 20 looks: super.looks(x) + k.", "or of the next KIND above that has one;"})
    private static void bodiesOfBlind() {
        TollForHesitators x = ofSeven(4);
        acted(x, 1, 0, 5, 6, 10);
        acted(x, 1, 1, 5, 16, 20, 11, 10);
        // 16 and 2
        acted(x, 1, 2, 5, 18, 12, 20, 11, 10, 10);
    }

    @Promise(value = {32, 33}, says = {"LED: 30 walks: super.walks(x) * 3.",
        "walks(..) and so on: the body of the COMER's KIND"})
    private static void bodiesOfLed() {
        TollForHesitators x = ofSeven(4);
        acted(x, 2, 0, 5, 21, 30, 10);
        acted(x, 2, 1, 5, 42, 11, 30, 10);
        // 42 and 9
        acted(x, 2, 2, 5, 35, 12, 11, 30, 10, 30, 10);
    }

    @Promise(value = {32, 33}, says = {"THROWN: 40 walks: super.walks(x + 1).", "super: from the KIND above the body's on."})
    private static void bodiesOfThrown() {
        TollForHesitators x = ofSeven(4);
        acted(x, 3, 0, 5, 27, 40, 30, 10);
        acted(x, 3, 1, 5, 54, 11, 40, 30, 10);
        // 54 and 15
        acted(x, 3, 2, 5, 57, 12, 11, 40, 30, 10, 40, 30, 10);
    }

    @Promise(value = {32, 33}, says = {"DOUBTER: 50 stops: -super.stops(x).", "51 walks: super.walks(x) - m."})
    private static void bodiesOfDoubter() {
        TollForHesitators x = ofSeven(4);
        acted(x, 4, 0, 5, 5, 51, 10);
        acted(x, 4, 1, 5, 10, 11, 51, 10);
        // 10 and 1
        acted(x, 4, 2, 5, -11, 50, 12, 11, 51, 10, 51, 10);
    }

    @Promise(value = {32, 33}, says = "STANDER: 60 stops: super.stops(x) ^ 5.")
    private static void bodiesOfStander() {
        TollForHesitators x = ofSeven(4);
        acted(x, 5, 0, 5, 5, 51, 10);
        acted(x, 5, 1, 5, 10, 11, 51, 10);
        acted(x, 5, 2, 5, -11 ^ 5, 60, 50, 12, 11, 51, 10, 51, 10);
    }

    @Promise(value = {32, 33}, says = {"RUNNER: 70 walks: super.walks(x) * 2.", "71 looks: super.looks(x - k)."})
    private static void bodiesOfRunner() {
        TollForHesitators x = ofSeven(4);
        acted(x, 6, 0, 5, 22, 70, 10);
        // 71 looks at 1: 20 looks at 1: 11 looks at 1: 70 walks, 14; 28; 32
        acted(x, 6, 1, 5, 32, 71, 20, 11, 70, 10);
        // 32 and 14
        acted(x, 6, 2, 5, 46, 12, 71, 20, 11, 70, 10, 70, 10);
    }

    @Promise(value = 32, says = "m the number, k its a.")
    private static void numbersAndAsAtTheLeastAndTheMost() {
        TollForHesitators x = fresh();
        for (int c = 0; c <= 6; c++) {
            x.comer(1, c == 6 ? 9 : 0, 0, 1, 0, 0);
        }
        DUE.is("m is 0", x.act(0, 0, 5), 5);
        DUE.is("k is 0", x.act(0, 1, 5), 10);
        DUE.is("m is 6", x.act(6, 0, 5), 11);
        DUE.is("k is 9", x.act(6, 1, 5), 31);
    }

    @Promise(value = 32, says = "MOVES of COMERS, with x (wrapping): 0 walks, 1 looks, 2 stops;")
    private static void movesWrap() {
        TollForHesitators x = ofSeven(9);
        DUE.is("x + m", x.act(1, 0, MAX), MIN);
        DUE.is("x + m is the most", x.act(1, 0, MAX - 1), MAX);
        DUE.is("times 2", x.act(0, 1, MAX), -2);
        DUE.is("times 2", x.act(0, 1, MIN), 0);
        // 2 times MIN is 0
        DUE.is("and k", x.act(1, 1, MAX), 9);
        DUE.is("times 3", x.act(2, 0, MAX), -2147483645);
        DUE.is("x + 1", x.act(3, 0, MAX), -2147483639);
        DUE.is("less m", x.act(4, 0, MIN), MIN);
        DUE.is("less m", x.act(4, 0, MAX), MAX);
        // 0 and MIN - 9
        DUE.is("x - k", x.act(0, 2, MIN), 2147483639);
        // 4 times (MIN - 9 + 6), and 9
        DUE.is("looks(x - k)", x.act(6, 1, MIN), -3);
        // 0 and MIN - 9, and the sign
        DUE.is("the sign", x.act(4, 2, MIN), -2147483639);
        TollForHesitators y = ofSeven(0);
        // 0 and MIN: the sign of MIN is none
        DUE.is("the sign of MIN", y.act(4, 2, MIN), MIN);
        DUE.is("and 5 of it", y.act(5, 2, MIN), MIN + 5);
    }

    @Promise(value = {32, 33}, says = {"A MOVE of a COMER with x. 0, and no TRACE then: no such COMER, move.", "NONE: none such."})
    private static void noSuchMoveNoSuchComer() {
        TollForHesitators x = fresh();
        acted(x, 0, 0, 5, 0);
        x.comer(3, 3, 0, 1, 0, 0);
        int[][] calls = {{0, -1}, {0, 3}, {0, MIN}, {0, MAX}, {1, 0}, {-1, 0}, {MIN, 2}, {MAX, 2}, {1, 3}};
        for (int[] c : calls) {
            acted(x, 0, 2, 7, 48 ^ 15, 12, 11, 40, 30, 10, 40, 30, 10);
            acted(x, c[0], c[1], 7, 0);
            DUE.is("no TRACE", x.trace(0), -1);
        }
        acted(x, 0, 0, 7, 24, 40, 30, 10);
        x = ofSeven(3);
        for (int c = 0; c <= 6; c++) {
            acted(x, c, -1, 7, 0);
            acted(x, c, 3, 7, 0);
            acted(x, c, -3, 7, 0);
        }
        for (int what = 11; what <= 17; what++) {
            DUE.is("nothing is refused", x.status(what), 0);
        }
    }

    // ---- 33: trace

    @Promise(value = 33, says = {"THE TRACE's i-th body. NONE: none such.",
        "THE TRACE: the numbers of the bodies that ran in the latest act(), in the order in which they began;"})
    private static void traceAtBothEnds() {
        TollForHesitators x = ofSeven(4);
        DUE.is("no act() yet", x.trace(0), -1);
        DUE.is("none ran", x.status(9), 0);
        x.act(6, 1, 5);
        int[] due = {71, 20, 11, 70, 10};
        for (int i = 0; i < 5; i++) {
            DUE.is("trace(" + i + ")", x.trace(i), due[i]);
        }
        int[] none = {-1, 5, 6, 19, 20, 21, MIN, MAX};
        for (int i : none) {
            DUE.is("trace(" + i + ")", x.trace(i), -1);
        }
        x.act(0, 0, 5);
        DUE.is("the latest: trace(0)", x.trace(0), 10);
        DUE.is("the latest: trace(1)", x.trace(1), -1);
    }

    @Promise(value = {33, 36}, says = {"the first 20 are kept.", "9 bodies that ran in the latest act() (all, kept or not);"})
    private static void theLongestTraceIsKeptWhole() {
        // no MOVE runs more than eight bodies, so that all are among the first 20
        int[] ran = {1, 2, 4, 1, 3, 5, 2, 3, 6, 3, 4, 8, 2, 3, 7, 2, 3, 8, 2, 5, 8};
        TollForHesitators x = ofSeven(9);
        for (int c = 0; c <= 6; c++) {
            for (int move = 0; move <= 2; move++) {
                x.act(c, move, 7);
                int due = ran[3 * c + move];
                DUE.is("bodies of act(" + c + ", " + move + ", 7)", x.status(9), due);
                DUE.is("the last is kept", x.trace(due - 1), 10);
                DUE.is("none behind it", x.trace(due), -1);
            }
        }
    }

    // ---- 34, 35: THE IMAGE

    @Promise(value = {34, 35}, says = {"is taken: how many COMERS.", "hold those of these numbers, or NOTHING: how many COMERS."})
    private static void imageOfNobodyAndOfSeven() {
        TollForHesitators x = fresh();
        DUE.is("of nobody", x.image(), 0);
        DUE.is("restored", x.restore(), 0);
        for (int c = 0; c <= 6; c++) {
            x.comer(c, 0, 0, 1, 0, 0);
        }
        DUE.is("restored: nobody", x.restore(), 0);
        DUE.is("COMERS", x.status(0), 0);
        DUE.is("the first again", x.comer(5, 0, 0, 1, 0, 0), 0);
        for (int c = 1; c <= 6; c++) {
            x.comer(6 - c, 0, 0, 1, 0, 0);
        }
        DUE.is("of seven", x.image(), 7);
        DUE.is("restored", x.restore(), 7);
        DUE.is("still no room", x.comer(0, 0, 0, 1, 0, 0), -7);
        DUE.is("the KINDS that THE IMAGE has", x.comerOf(0, 0), 5);
    }

    @Promise(value = 35, says = "-6 there is none.")
    private static void restoreWhenThereIsNone() {
        TollForHesitators x = ofSeven(1);
        DUE.is("restore()", x.restore(), -6);
        DUE.is("COMERS", x.status(0), 7);
        DUE.is("refused -6", x.status(16), 1);
        x.image();
        DUE.is("restore()", x.restore(), 7);
        DUE.is("restore() again", x.restore(), 7);
        DUE.is("refused -6", x.status(16), 1);
    }

    @Promise(value = {34, 35}, says = {"THE IMAGE of all but SHELVES (and THE IMAGE, REFUSALS, the FAULT, THE TRACE)",
        "All is as THE IMAGE has it;"})
    private static void allIsAsTheImageHasIt() {
        TollForHesitators x = ofSeven(3);
        x.seed(99);
        x.ask(0, 20);
        x.ask(1, 9);
        x.ask(2, 1);
        x.ask(3, 99);
        x.tell(6, 0, 30);
        x.tell(6, 1, 999);
        x.tell(6, 2, 30);
        x.row(0, 2, 0);
        x.done(0, 0);
        long[] as = State.of(x);
        x.image();
        x.ask(0, 1);
        x.ask(1, 0);
        x.ask(2, 99);
        x.ask(3, 1);
        x.tell(6, 0, 0);
        x.tell(6, 1, 0);
        x.tell(6, 2, 0);
        x.tell(0, 0, 30);
        x.tell(0, 1, 999);
        x.tell(0, 2, 30);
        x.days(2);
        x.seed(MIN);
        x.restore();
        long[] now = State.of(x);
        for (int i = 0; i < as.length; i++) {
            DUE.is(State.name(i), now[i], as[i]);
        }
    }

    @Promise(value = {34, 35}, says = "THE IMAGE of all but SHELVES (and THE IMAGE, REFUSALS, the FAULT, THE TRACE)")
    private static void theRestIsAsItStands() {
        TollForHesitators x = ofSeven(3);
        Due.write(x, 0, 0, "fog 3x");
        x.image();
        x.road(0);
        x.act(3, 0, 1);
        x.tell(7, 0, 0);
        x.set(0, 0, 77);
        x.row(1, 3, 4);
        x.set(1, 3, -5);
        x.show(2, 6);
        x.show(3, -1);
        long[] as = State.of(x);
        x.restore();
        long[] now = State.of(x);
        for (int i = 0; i < as.length; i++) {
            DUE.is(State.name(i), now[i], as[i]);
        }
    }

    @Promise(value = 34, says = "is taken: how many COMERS.")
    private static void theImageIsAsItWasTaken() {
        TollForHesitators x = fresh();
        x.comer(0, 0, 5, 1, 0, 50);
        x.image();
        x.tell(0, 0, 6);
        x.comer(0, 0, 7, 1, 0, 0);
        x.restore();
        DUE.is("NERVES together", x.status(6), 5);
        x.tell(0, 0, 8);
        x.restore();
        DUE.is("THE IMAGE has not changed", x.status(6), 5);
        x.tell(0, 0, 9);
        x.comer(0, 0, 20, 1, 0, 0);
        DUE.is("a later IMAGE", x.image(), 2);
        x.tell(1, 0, 0);
        x.restore();
        DUE.is("stands for the former", x.status(6), 29);
    }

    @Promise(value = 35, says = "SHELVES with COMERS hold those of these numbers, or NOTHING:")
    private static void shelvesAfterARestore() {
        TollForHesitators x = fresh();
        for (int c = 0; c <= 2; c++) {
            x.comer(0, 0, 10 + c, 1, 0, 0);
        }
        x.image();
        for (int c = 3; c <= 6; c++) {
            x.comer(0, 0, 10 + c, 1, 0, 0);
        }
        for (int s = 0; s <= 6; s++) {
            x.show(s, s);
        }
        x.row(7, 2, 1);
        x.tell(2, 0, 30);
        DUE.is("restore()", x.restore(), 3);
        int[] held = {0, 1, 2, -1, -1, -1, -1, 102};
        for (int s = 0; s <= 7; s++) {
            DUE.is("holds(" + s + ")", x.holds(s), held[s]);
        }
        DUE.is("he of THE IMAGE", x.says(2, 0), 12);
        DUE.is("NOTHING", x.says(3, 0), -3);
        // shown NOTHING stays so when one of that number comes again
        x.comer(0, 0, 1, 1, 0, 0);
        DUE.is("holds(3)", x.holds(3), -1);
        // on the first and the last SHELF
        x.show(0, 3);
        x.show(7, 3);
        x.show(1, 2);
        DUE.is("restore()", x.restore(), 3);
        DUE.is("holds(0)", x.holds(0), -1);
        DUE.is("holds(7)", x.holds(7), -1);
        DUE.is("holds(1)", x.holds(1), 2);
        // more COMERS in THE IMAGE than there were: SHELVES are not changed
        TollForHesitators y = fresh();
        y.comer(6, 0, 1, 1, 7, 0);
        y.image();
        y.show(0, 0);
        y.show(0, -1);
        y.restore();
        DUE.is("NOTHING stays NOTHING", y.holds(0), -1);
    }

    // ---- 36: status

    @Promise(value = 36, says = {"How many: 0 COMERS, 1 WAY, 2 FOG, 3 TOLL, 4 PUSH, 5 DAYS, 6 NERVES together, 7 PURSES together, 8 SEED",
        "NONE for another what."})
    private static void statusOfEachAndOfAnother() {
        TollForHesitators x = ofSeven(1);
        for (int c = 0; c <= 6; c++) {
            x.tell(c, 0, 30);
            x.tell(c, 1, 999);
        }
        x.ask(0, 19);
        x.ask(1, 9);
        x.ask(2, 98);
        x.ask(3, 97);
        x.seed(MIN);
        x.row(0, 2, 0);
        x.done(0, 0);
        x.act(0, 1, 1);
        int[] due = {7, 19, 9, 98, 97, 1, 210, 6993, MIN, 2};
        for (int what = 0; what < due.length; what++) {
            DUE.is("status(" + what + ")", x.status(what), due[what]);
        }
        int[] others = {-1, 10, 18, 19, MIN, MAX};
        for (int what : others) {
            DUE.is("status(" + what + ")", x.status(what), -1);
        }
        for (int what = 11; what <= 17; what++) {
            DUE.is("nothing is refused: status(" + what + ")", x.status(what), 0);
        }
    }

    @Promise(value = 36, says = "11 to 17: REFUSALS -1 to -7.")
    private static void statusOfEachRefusal() {
        for (int refusal = 1; refusal <= 7; refusal++) {
            TollForHesitators x = fresh();
            x.comer(0, 0, 0, 1, 0, 0);
            x.show(1, 0);
            for (int times = 1; times <= 3; times++) {
                DUE.is("refused", refused(x, refusal), -refusal);
                for (int r = 1; r <= 7; r++) {
                    DUE.is("after -" + refusal + ": status(" + (10 + r) + ")", x.status(10 + r), r == refusal ? times : 0);
                }
            }
        }
    }

    /** A call that is refused so. */
    private static int refused(TollForHesitators x, int refusal) {
        switch (refusal) {
            case 1:
                return x.set(8, 0, 0);
            case 2:
                return x.set(1, 0, 0);
            case 3:
                return x.set(0, 0, 0);
            case 4:
                return x.row(0, 0, -1);
            case 5:
                return x.comerOf(1, 0);
            case 6:
                return x.ask(0, 0);
            default:
                return x.row(0, 0, 161);
        }
    }
}
