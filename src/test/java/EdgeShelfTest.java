/** Promises 1 to 8, sentence by sentence: the edges of SHELVES and ROWS. */
public final class EdgeShelfTest {
    private static final Due DUE = new Due("EdgeShelfTest");
    private static final int MIN = Integer.MIN_VALUE;
    private static final int MAX = Integer.MAX_VALUE;

    public static void main(String[] args) {
        Suite.run(EdgeShelfTest.class, DUE);
    }

    private static TollForHesitators fresh() {
        return new TollForHesitators();
    }

    /** With COMERS 0 to 6, of the KINDS of these numbers, whose a is 4, NERVE 10 and the number, PACE 2, LOAD 3. */
    private static TollForHesitators ofSeven() {
        TollForHesitators x = fresh();
        for (int kind = 0; kind <= 6; kind++) {
            x.comer(kind, 4, 10 + kind, 2, 3, 0);
        }
        return x;
    }

    private static void elements(TollForHesitators x, int s, long... due) {
        for (int i = 0; i < due.length; i++) {
            DUE.is("element(" + s + ", " + i + ")", x.element(s, i), due[i]);
        }
        DUE.is("element(" + s + ", " + due.length + ")", x.element(s, due.length), 0);
    }

    private static void noneRefused(TollForHesitators x) {
        for (int what = 11; what <= 17; what++) {
            DUE.is("status(" + what + ")", x.status(what), 0);
        }
    }

    // ---- 1: a new object

    @Promise(value = 1, says = "No COMERS.")
    private static void noComersAtFirst() {
        TollForHesitators x = fresh();
        DUE.is("status(0)", x.status(0), 0);
        DUE.is("comerOf(0, 0)", x.comerOf(0, 0), -5);
        DUE.is("brave(-1)", x.brave(-1), 0);
        DUE.is("NERVES together", x.status(6), 0);
        DUE.is("PURSES together", x.status(7), 0);
    }

    @Promise(value = 1, says = "An object is used for at most 512 calls after it has been made")
    private static void theLastOf512CallsAnswersAsTheFirst() {
        TollForHesitators x = fresh();
        x.comer(0, 0, 3, 8, 0, 7);
        for (int call = 2; call <= 511; call++) {
            DUE.is("call " + call, x.rest(1), -6);
        }
        DUE.is("call 512", x.status(16), 510);
    }

    @Promise(value = 1, says = "No COMERS.")
    private static void eachObjectHasItsOwn() {
        TollForHesitators x = ofSeven();
        x.row(0, 0, 3);
        x.ask(0, 20);
        x.image();
        x.tell(9, 0, 0);
        TollForHesitators y = fresh();
        DUE.is("COMERS", y.status(0), 0);
        DUE.is("SHELVES", y.holds(0), -1);
        DUE.is("WAY", y.status(1), 8);
        DUE.is("THE IMAGE", y.restore(), -6);
        DUE.is("REFUSALS", y.status(11), 0);
    }

    @Promise(value = {1, 36}, says = "WAY (1 to 20; 8 at first)")
    private static void wayAtFirst() {
        DUE.is("status(1)", fresh().status(1), 8);
    }

    @Promise(value = {1, 36}, says = "FOG (0 to 9; 0 at first)")
    private static void fogAtFirst() {
        DUE.is("status(2)", fresh().status(2), 0);
    }

    @Promise(value = {1, 36}, says = "TOLL (1 to 99; 5 at first)")
    private static void tollAtFirst() {
        DUE.is("status(3)", fresh().status(3), 5);
    }

    @Promise(value = {1, 36}, says = "PUSH (1 to 99; 1 at first)")
    private static void pushAtFirst() {
        DUE.is("status(4)", fresh().status(4), 1);
    }

    @Promise(value = {1, 36}, says = "DAYS gone by (0 at first)")
    private static void daysAtFirst() {
        DUE.is("status(5)", fresh().status(5), 0);
    }

    @Promise(value = {1, 31, 36}, says = "SEED (1 at first)")
    private static void seedAtFirst() {
        DUE.is("status(8)", fresh().status(8), 1);
        DUE.is("seed(1)", fresh().seed(1), 1);
    }

    @Promise(value = {1, 36}, says = "nothing changes but how many there were")
    private static void noRefusalsAtFirst() {
        noneRefused(fresh());
    }

    @Promise(value = {1, 7}, says = "SHELVES 0 to 7 hold NOTHING (at first)")
    private static void shelvesHoldNothingAtFirst() {
        TollForHesitators x = fresh();
        for (int s = 0; s <= 7; s++) {
            DUE.is("holds(" + s + ")", x.holds(s), -1);
            DUE.is("set(" + s + ", 0, 1)", x.set(s, 0, 1), -3);
        }
    }

    // ---- 2: row

    @Promise(value = 2, says = {"SHELVES 0 to 7", "SHELF s holds a new ROW: 1. -1;"})
    private static void rowOnTheFirstAndTheLastShelf() {
        TollForHesitators x = fresh();
        DUE.is("row(0, 0, 1)", x.row(0, 0, 1), 1);
        DUE.is("row(7, 0, 1)", x.row(7, 0, 1), 1);
        DUE.is("row(-1, 0, 1)", x.row(-1, 0, 1), -1);
        DUE.is("row(8, 0, 1)", x.row(8, 0, 1), -1);
        DUE.is("row(MIN, 0, 1)", x.row(MIN, 0, 1), -1);
        DUE.is("row(MAX, 0, 1)", x.row(MAX, 0, 1), -1);
        DUE.is("refused -1", x.status(11), 4);
    }

    @Promise(value = 2, says = {"-6 SORT;", "SORT (0 bytes, 1 shorts, 2 ints, 3 longs)"})
    private static void rowOfTheFirstAndTheLastSort() {
        TollForHesitators x = fresh();
        for (int sort = 0; sort <= 3; sort++) {
            DUE.is("row(2, " + sort + ", 1)", x.row(2, sort, 1), 1);
            DUE.is("holds(2)", x.holds(2), 100 + sort);
        }
        DUE.is("row(2, -1, 1)", x.row(2, -1, 1), -6);
        DUE.is("row(2, 4, 1)", x.row(2, 4, 1), -6);
        DUE.is("row(2, MIN, 1)", x.row(2, MIN, 1), -6);
        DUE.is("row(2, MAX, 1)", x.row(2, MAX, 1), -6);
        DUE.is("refused -6", x.status(16), 4);
        DUE.is("the row of longs stays", x.holds(2), 103);
    }

    @Promise(value = 2, says = {"-4;", "-4 BELOW: a size below 0."})
    private static void rowOfNoElementsAndOfLess() {
        TollForHesitators x = fresh();
        DUE.is("row(3, 1, 0)", x.row(3, 1, 0), 1);
        DUE.is("holds(3)", x.holds(3), 101);
        DUE.is("set(3, 0, 1)", x.set(3, 0, 1), -5);
        DUE.is("row(3, 1, -1)", x.row(3, 1, -1), -4);
        DUE.is("row(3, 1, MIN)", x.row(3, 1, MIN), -4);
        DUE.is("refused -4", x.status(14), 2);
    }

    @Promise(value = 2, says = {"-7 n above 160.", "-7 ROOM: more than may be."})
    private static void rowOf160ElementsAndOfMore() {
        for (int sort = 0; sort <= 3; sort++) {
            TollForHesitators x = fresh();
            DUE.is("row of 160", x.row(3, sort, 160), 1);
            DUE.is("its last element", x.set(3, 159, 77), 1);
            DUE.is("it stands there", x.element(3, 159), 77);
            DUE.is("none behind it", x.set(3, 160, 77), -5);
            DUE.is("row of 161", x.row(3, sort, 161), -7);
            DUE.is("row of MAX", x.row(3, sort, MAX), -7);
            DUE.is("refused -7", x.status(17), 2);
            DUE.is("the row stays", x.element(3, 159), 77);
        }
    }

    @Promise(value = 2, says = "and 0 to 160 elements, 0 at first")
    private static void newRowIsAllZeros() {
        TollForHesitators x = fresh();
        x.row(0, 3, 160);
        for (int i = 0; i < 160; i++) {
            x.set(0, i, -1 - i);
        }
        x.row(0, 3, 1);
        elements(x, 0, 0);
        x.row(0, 3, 160);
        for (int i = 0; i < 160; i++) {
            DUE.is("element(0, " + i + ")", x.element(0, i), 0);
        }
    }

    @Promise(value = 2, says = "SHELF s holds a new ROW")
    private static void rowOverWhatWasHeld() {
        TollForHesitators x = ofSeven();
        Due.fill(x, 0, 2, 5, 6, 7);
        DUE.is("over a ROW", x.row(0, 1, 3), 1);
        DUE.is("holds(0)", x.holds(0), 101);
        elements(x, 0, 0, 0, 0);
        x.show(0, 6);
        DUE.is("over a COMER", x.row(0, 0, 2), 1);
        DUE.is("holds(0)", x.holds(0), 100);
        elements(x, 0, 0, 0);
        x.show(0, -1);
        DUE.is("over NOTHING", x.row(0, 3, 2), 1);
        DUE.is("holds(0)", x.holds(0), 103);
        DUE.is("other SHELVES hold what they held", x.holds(1), -1);
    }

    // ---- 3: set

    @Promise(value = 3, says = {"Element i of the ROW becomes v: 1.", "-5."})
    private static void setTheFirstAndTheLastElement() {
        TollForHesitators x = fresh();
        x.row(0, 2, 3);
        DUE.is("set(0, 0, 8)", x.set(0, 0, 8), 1);
        elements(x, 0, 8, 0, 0);
        DUE.is("set(0, 2, 9)", x.set(0, 2, 9), 1);
        elements(x, 0, 8, 0, 9);
        DUE.is("set(0, -1, 7)", x.set(0, -1, 7), -5);
        DUE.is("set(0, 3, 7)", x.set(0, 3, 7), -5);
        DUE.is("set(0, MIN, 7)", x.set(0, MIN, 7), -5);
        DUE.is("set(0, MAX, 7)", x.set(0, MAX, 7), -5);
        elements(x, 0, 8, 0, 9);
        DUE.is("refused -5", x.status(15), 4);
    }

    @Promise(value = 3, says = "-5 BEYOND: an element that isn't there")
    private static void setInARowOfNoElements() {
        TollForHesitators x = fresh();
        x.row(0, 2, 0);
        DUE.is("set(0, 0, 8)", x.set(0, 0, 8), -5);
        DUE.is("set(0, -1, 8)", x.set(0, -1, 8), -5);
        DUE.is("element(0, 0)", x.element(0, 0), 0);
    }

    /** Puts each of the values in, and asks what of it was kept. */
    private static void kept(int sort, long[] put, long[] due) {
        TollForHesitators x = fresh();
        x.row(0, sort, 1);
        for (int i = 0; i < put.length; i++) {
            DUE.is("set(0, 0, " + put[i] + ")", x.set(0, 0, put[i]), 1);
            DUE.is("of " + put[i] + " is kept", x.element(0, 0), due[i]);
        }
    }

    @Promise(value = 3, says = "what is put in keeps its lowest bits")
    private static void bytesKeepEightBits() {
        kept(0, new long[] {127, 128, 255, 256, 257, -1, -128, -129, -256, Long.MAX_VALUE, Long.MIN_VALUE, 1L << 32},
                new long[] {127, -128, -1, 0, 1, -1, -128, 127, 0, -1, 0, 0});
    }

    @Promise(value = 3, says = "what is put in keeps its lowest bits")
    private static void shortsKeepSixteenBits() {
        kept(1, new long[] {255, 32767, 32768, 65535, 65536, 65537, -32768, -32769, Long.MAX_VALUE, Long.MIN_VALUE},
                new long[] {255, 32767, -32768, -1, 0, 1, -32768, 32767, -1, 0});
    }

    @Promise(value = 3, says = "what is put in keeps its lowest bits")
    private static void intsKeepThirtyTwoBits() {
        kept(2, new long[] {65536, MAX, 1L + MAX, (1L << 32) - 1, 1L << 32, MIN, MIN - 1L, Long.MAX_VALUE, Long.MIN_VALUE},
                new long[] {65536, MAX, MIN, -1, 0, MIN, MAX, -1, 0});
    }

    @Promise(value = 3, says = "what is put in keeps its lowest bits")
    private static void longsKeepAll() {
        long[] all = {1L << 32, 1L + MAX, MIN - 1L, Long.MAX_VALUE, Long.MIN_VALUE, -1, 0};
        kept(3, all, all);
    }

    @Promise(value = 3, says = {"-1;", "-1 NOBODY: no such SHELF"})
    private static void setOnNoShelf() {
        TollForHesitators x = fresh();
        x.row(0, 2, 1);
        x.row(7, 2, 1);
        DUE.is("set(0, 0, 1)", x.set(0, 0, 1), 1);
        DUE.is("set(7, 0, 1)", x.set(7, 0, 1), 1);
        DUE.is("set(-1, 0, 1)", x.set(-1, 0, 1), -1);
        DUE.is("set(8, 0, 1)", x.set(8, 0, 1), -1);
        DUE.is("refused -1", x.status(11), 2);
    }

    @Promise(value = 3, says = {"-2;", "-3;", "-2 OTHER: a SHELF that holds a COMER where a ROW is wanted",
        "-3 NOTHING: a SHELF that holds NOTHING."})
    private static void setWhereNoRowIs() {
        TollForHesitators x = ofSeven();
        x.show(0, 0);
        x.show(1, 6);
        DUE.is("COMER 0", x.set(0, 0, 1), -2);
        DUE.is("COMER 6", x.set(1, 0, 1), -2);
        DUE.is("NOTHING", x.set(2, 0, 1), -3);
        x.show(0, -1);
        DUE.is("NOTHING again", x.set(0, 0, 1), -3);
        DUE.is("refused -2", x.status(12), 2);
        DUE.is("refused -3", x.status(13), 2);
    }

    // ---- 4: copy

    @Promise(value = 4, says = "(as they were ahead): 1.")
    private static void copyOverItself() {
        TollForHesitators x = fresh();
        Due.fill(x, 0, 2, 1, 2, 3, 4, 5);
        DUE.is("upward by one", x.copy(0, 0, 0, 1, 4), 1);
        elements(x, 0, 1, 1, 2, 3, 4);
        DUE.is("downward by one", x.copy(0, 0, 1, 0, 4), 1);
        elements(x, 0, 1, 2, 3, 4, 4);
        DUE.is("onto itself", x.copy(0, 0, 0, 0, 5), 1);
        elements(x, 0, 1, 2, 3, 4, 4);
        DUE.is("upward by three", x.copy(0, 0, 0, 3, 2), 1);
        elements(x, 0, 1, 2, 3, 1, 2);
    }

    @Promise(value = 4, says = "(as they were ahead): 1.")
    private static void copyOfAFullRowOverItself() {
        TollForHesitators x = fresh();
        x.row(0, 1, 160);
        for (int i = 0; i < 160; i++) {
            x.set(0, i, 300 + i);
        }
        DUE.is("upward", x.copy(0, 0, 0, 1, 159), 1);
        DUE.is("the first stays", x.element(0, 0), 300);
        for (int i = 1; i < 160; i++) {
            DUE.is("element(0, " + i + ")", x.element(0, i), 299 + i);
        }
        DUE.is("one too many", x.copy(0, 0, 0, 1, 160), -5);
    }

    @Promise(value = 4, says = "Elements i, i + 1, .. of the ROW in SHELF p, n of them, come to elements j, j + 1")
    private static void copyFromEndToEnd() {
        TollForHesitators x = fresh();
        Due.fill(x, 0, 3, Long.MIN_VALUE, 2, Long.MAX_VALUE);
        Due.fill(x, 1, 3, 7, 8, 9, 10);
        DUE.is("the last to the first", x.copy(0, 1, 2, 0, 1), 1);
        elements(x, 1, Long.MAX_VALUE, 8, 9, 10);
        DUE.is("the first to the last", x.copy(0, 1, 0, 3, 1), 1);
        elements(x, 1, Long.MAX_VALUE, 8, 9, Long.MIN_VALUE);
        DUE.is("all", x.copy(0, 1, 0, 1, 3), 1);
        elements(x, 1, Long.MAX_VALUE, Long.MIN_VALUE, 2, Long.MAX_VALUE);
        elements(x, 0, Long.MIN_VALUE, 2, Long.MAX_VALUE);
    }

    @Promise(value = 4, says = "n of them")
    private static void copyOfNone() {
        TollForHesitators x = fresh();
        Due.fill(x, 0, 0, 1, 2);
        Due.fill(x, 1, 0, 3, 4, 5);
        x.row(2, 0, 0);
        DUE.is("at the start", x.copy(0, 1, 0, 0, 0), 1);
        DUE.is("behind the last of both", x.copy(0, 1, 2, 3, 0), 1);
        DUE.is("of a ROW of no elements", x.copy(2, 1, 0, 0, 0), 1);
        DUE.is("to a ROW of no elements", x.copy(1, 2, 3, 0, 0), 1);
        DUE.is("of it to itself", x.copy(2, 2, 0, 0, 0), 1);
        DUE.is("one of it", x.copy(2, 1, 0, 0, 1), -5);
        DUE.is("one to it", x.copy(1, 2, 0, 0, 1), -5);
        elements(x, 1, 3, 4, 5);
    }

    @Promise(value = 4, says = "-5 i or j below 0")
    private static void copyFromBelow() {
        TollForHesitators x = fresh();
        Due.fill(x, 0, 0, 1, 2);
        Due.fill(x, 1, 0, 3, 4);
        DUE.is("i is -1", x.copy(0, 1, -1, 0, 1), -5);
        DUE.is("j is -1", x.copy(0, 1, 0, -1, 1), -5);
        DUE.is("i is -1, of none", x.copy(0, 1, -1, 0, 0), -5);
        DUE.is("j is -1, of none", x.copy(0, 1, 0, -1, 0), -5);
        DUE.is("i is MIN", x.copy(0, 1, MIN, 0, MAX), -5);
        DUE.is("j is MIN", x.copy(0, 1, 0, MIN, 1), -5);
        DUE.is("refused -5", x.status(15), 6);
        elements(x, 1, 3, 4);
    }

    @Promise(value = 4, says = "or an end that isn't there.")
    private static void copyBeyondAnEnd() {
        TollForHesitators x = fresh();
        Due.fill(x, 0, 0, 1, 2, 3);
        Due.fill(x, 1, 0, 4, 5);
        DUE.is("to the end of both", x.copy(0, 1, 1, 0, 2), 1);
        elements(x, 1, 2, 3);
        DUE.is("beyond the end of the first", x.copy(1, 0, 1, 0, 2), -5);
        DUE.is("beyond the end of the second", x.copy(0, 1, 0, 1, 2), -5);
        DUE.is("none, i beyond", x.copy(0, 1, 4, 0, 0), -5);
        DUE.is("none, j beyond", x.copy(0, 1, 0, 3, 0), -5);
        DUE.is("i and n beyond all ints", x.copy(0, 1, 1, 0, MAX), -5);
        DUE.is("j and n beyond all ints", x.copy(0, 1, 0, 1, MAX), -5);
        DUE.is("i at the most", x.copy(0, 1, MAX, 0, 1), -5);
        DUE.is("j at the most", x.copy(0, 1, 0, MAX, 1), -5);
        DUE.is("refused -5", x.status(15), 8);
        elements(x, 1, 2, 3);
    }

    @Promise(value = 4, says = "-4 n;")
    private static void copyOfLessThanNone() {
        TollForHesitators x = fresh();
        x.row(0, 0, 2);
        DUE.is("n is 0", x.copy(0, 0, 0, 0, 0), 1);
        DUE.is("n is -1", x.copy(0, 0, 1, 1, -1), -4);
        DUE.is("n is MIN", x.copy(0, 0, 0, 0, MIN), -4);
        DUE.is("refused -4", x.status(14), 2);
    }

    @Promise(value = 4, says = {"-2 also of two SORTS (when both hold something);", "ROWS of two SORTS"})
    private static void copyOfTwoSorts() {
        TollForHesitators x = fresh();
        for (int sort = 0; sort <= 3; sort++) {
            x.row(sort, sort, 1);
            x.row(4 + sort, sort, 1);
        }
        for (int p = 0; p <= 3; p++) {
            for (int q = 0; q <= 3; q++) {
                DUE.is("copy(" + p + ", " + (4 + q) + ")", x.copy(p, 4 + q, 0, 0, 1), p == q ? 1 : -2);
            }
        }
        DUE.is("refused -2", x.status(12), 12);
    }

    @Promise(value = 4, says = {"(when both hold something)", "-3 either;"})
    private static void copyWhereOneOrBothHoldNoRow() {
        TollForHesitators x = ofSeven();
        x.show(0, 0);
        x.show(1, 6);
        x.row(2, 3, 2);
        int[][] due = {
            {-2, -2, -2, -2}, {-2, -2, -2, -2}, {-2, -2, 1, -3}, {-2, -2, -3, -3}
        };
        for (int p = 0; p <= 3; p++) {
            for (int q = 0; q <= 3; q++) {
                DUE.is("copy(" + p + ", " + q + ")", x.copy(p, q, 0, 0, 1), due[p][q]);
            }
        }
        DUE.is("refused -2", x.status(12), 12);
        DUE.is("refused -3", x.status(13), 3);
    }

    @Promise(value = 4, says = "-1;")
    private static void copyOnNoShelf() {
        TollForHesitators x = fresh();
        x.row(0, 0, 1);
        x.row(7, 0, 1);
        DUE.is("copy(0, 7)", x.copy(0, 7, 0, 0, 1), 1);
        DUE.is("copy(7, 0)", x.copy(7, 0, 0, 0, 1), 1);
        DUE.is("p is -1", x.copy(-1, 0, 0, 0, 1), -1);
        DUE.is("p is 8", x.copy(8, 0, 0, 0, 1), -1);
        DUE.is("q is -1", x.copy(0, -1, 0, 0, 1), -1);
        DUE.is("q is 8", x.copy(0, 8, 0, 0, 1), -1);
        DUE.is("both", x.copy(8, -1, 0, 0, 1), -1);
        DUE.is("refused -1", x.status(11), 5);
    }

    // ---- 5: element

    @Promise(value = 5, says = "Element i of the ROW; 0 if there is none (nothing is refused).")
    private static void elementAtBothEnds() {
        TollForHesitators x = fresh();
        Due.fill(x, 0, 2, 6, 7, 8);
        DUE.is("element(0, 0)", x.element(0, 0), 6);
        DUE.is("element(0, 2)", x.element(0, 2), 8);
        DUE.is("element(0, -1)", x.element(0, -1), 0);
        DUE.is("element(0, 3)", x.element(0, 3), 0);
        DUE.is("element(0, MIN)", x.element(0, MIN), 0);
        DUE.is("element(0, MAX)", x.element(0, MAX), 0);
        noneRefused(x);
    }

    @Promise(value = 5, says = "0 if there is none")
    private static void elementOfAShorterRow() {
        TollForHesitators x = fresh();
        Due.fill(x, 0, 2, 6, 7, 8);
        x.row(0, 2, 0);
        DUE.is("element(0, 0)", x.element(0, 0), 0);
        x.row(0, 2, 1);
        DUE.is("element(0, 1)", x.element(0, 1), 0);
        noneRefused(x);
    }

    @Promise(value = 5, says = "0 if there is none (nothing is refused).")
    private static void elementWhereNoRowIs() {
        TollForHesitators x = ofSeven();
        Due.fill(x, 0, 2, 6);
        x.show(0, 5);
        Due.fill(x, 1, 2, 6);
        x.show(1, -1);
        DUE.is("of a COMER", x.element(0, 0), 0);
        DUE.is("of NOTHING", x.element(1, 0), 0);
        DUE.is("of no SHELF", x.element(-1, 0), 0);
        DUE.is("of no SHELF", x.element(8, 0), 0);
        DUE.is("of no SHELF", x.element(MIN, MIN), 0);
        DUE.is("of no SHELF", x.element(MAX, MAX), 0);
        noneRefused(x);
    }

    // ---- 6: show

    @Promise(value = 6, says = "SHELF s holds a COMER, or NOTHING (comer NONE): 1, 0.")
    private static void showTheFirstTheLastAndNobody() {
        TollForHesitators x = ofSeven();
        DUE.is("show(0, 0)", x.show(0, 0), 1);
        DUE.is("holds(0)", x.holds(0), 0);
        DUE.is("show(7, 6)", x.show(7, 6), 1);
        DUE.is("holds(7)", x.holds(7), 6);
        DUE.is("show(7, -1)", x.show(7, -1), 0);
        DUE.is("holds(7)", x.holds(7), -1);
        DUE.is("show(7, -1) again", x.show(7, -1), 0);
        DUE.is("NOTHING is not refused", x.status(11), 0);
    }

    @Promise(value = 6, says = {"-1.", "-1 NOBODY: no such SHELF, COMER, KIND."})
    private static void showNoneSuch() {
        TollForHesitators x = fresh();
        DUE.is("no COMERS yet", x.show(0, 0), -1);
        x.comer(0, 0, 0, 1, 0, 0);
        x.comer(0, 0, 0, 1, 0, 0);
        DUE.is("show(0, 1)", x.show(0, 1), 1);
        DUE.is("show(0, 2)", x.show(0, 2), -1);
        DUE.is("show(0, -2)", x.show(0, -2), -1);
        DUE.is("show(0, MIN)", x.show(0, MIN), -1);
        DUE.is("show(0, MAX)", x.show(0, MAX), -1);
        DUE.is("show(-1, 0)", x.show(-1, 0), -1);
        DUE.is("show(8, 0)", x.show(8, 0), -1);
        DUE.is("show(-1, -1)", x.show(-1, -1), -1);
        DUE.is("show(8, -1)", x.show(8, -1), -1);
        DUE.is("holds(0) still", x.holds(0), 1);
        DUE.is("refused -1", x.status(11), 9);
    }

    @Promise(value = 6, says = "SHELF s holds a COMER, or NOTHING")
    private static void showOverARow() {
        TollForHesitators x = ofSeven();
        Due.fill(x, 0, 2, 4, 5);
        Due.fill(x, 1, 2, 4, 5);
        DUE.is("a COMER", x.show(0, 3), 1);
        DUE.is("NOTHING", x.show(1, -1), 0);
        DUE.is("no ROW any more", x.set(0, 0, 1), -2);
        DUE.is("no ROW any more", x.set(1, 0, 1), -3);
    }

    // ---- 7: holds

    @Promise(value = 7, says = "What SHELF s holds: NONE NOTHING, or no such SHELF;")
    private static void holdsNothing() {
        TollForHesitators x = fresh();
        int[] shelves = {0, 7, -1, 8, MIN, MAX};
        for (int s : shelves) {
            DUE.is("holds(" + s + ")", x.holds(s), -1);
        }
        noneRefused(x);
    }

    @Promise(value = 7, says = "a COMER's number; 100 and the SORT of a ROW.")
    private static void holdsEachThatMayBe() {
        TollForHesitators x = ofSeven();
        for (int c = 0; c <= 6; c++) {
            x.show(c, c);
            DUE.is("a COMER", x.holds(c), c);
        }
        for (int sort = 0; sort <= 3; sort++) {
            x.row(7, sort, 0);
            DUE.is("a ROW of no elements", x.holds(7), 100 + sort);
            x.row(7, sort, 160);
            DUE.is("a full ROW", x.holds(7), 100 + sort);
        }
        noneRefused(x);
    }

    // ---- 8: says

    @Promise(value = 8, says = {"What the COMER in SHELF s, taken for one of a KIND, says:", "COMER his NERVE;",
        "BLIND, RUNNER his LOAD;", "LED, THROWN his PACE;"})
    private static void saysTakenForHisOwnKind() {
        TollForHesitators x = ofSeven();
        int[] due = {10, 3, 2, 2, 2, 6, 3};
        for (int kind = 0; kind <= 6; kind++) {
            x.show(0, kind);
            DUE.is("KIND " + kind, x.says(0, kind), due[kind]);
            DUE.is("KIND " + kind + " for a COMER", x.says(0, 0), 10 + kind);
        }
        noneRefused(x);
    }

    @Promise(value = 8, says = "DOUBTER, STANDER his STEP.")
    private static void saysTheStepAtItsLeastAndMost() {
        TollForHesitators x = fresh();
        x.comer(4, 9, 0, 1, 0, 0);
        x.comer(5, 0, 0, 1, 0, 0);
        x.comer(5, 9, 0, 1, 0, 0);
        int[][] due = {{2, -2}, {2, 2}, {11, 11}};
        for (int c = 0; c < 3; c++) {
            x.show(0, c);
            DUE.is("for a DOUBTER", x.says(0, 4), due[c][0]);
            DUE.is("for a STANDER", x.says(0, 5), due[c][1]);
        }
    }

    @Promise(value = 8, says = {"-2 also a COMER of another KIND;", "a COMER who isn't of the KIND wanted, or one under it.",
        "0 COMER; 1 BLIND, 2 LED, 4 DOUBTER, each under COMER; 3 THROWN, under LED; 5 STANDER, under DOUBTER;",
        "6 RUNNER, under BLIND;"})
    private static void saysOnlyUpward() {
        // whether one of a KIND (a row) is of each KIND (a column), or of one under it
        String[] is = {"1......", "11.....", "1.1....", "1.11...", "1...1..", "1...11.", "11....1"};
        TollForHesitators x = ofSeven();
        int others = 0;
        for (int kind = 0; kind <= 6; kind++) {
            x.show(0, kind);
            for (int as = 0; as <= 6; as++) {
                boolean may = is[kind].charAt(as) == '1';
                DUE.is(kind + " for " + as, x.says(0, as) == -2 ? 0 : 1, may ? 1 : 0);
                others += may ? 0 : 1;
            }
        }
        DUE.is("refused -2", x.status(12), others);
    }

    @Promise(value = 8, says = {"-1 SHELF, KIND;", "each of a KIND: 0 COMER;"})
    private static void saysOnNoShelfForNoKind() {
        TollForHesitators x = ofSeven();
        x.show(0, 6);
        x.show(7, 6);
        DUE.is("says(0, 6)", x.says(0, 6), 3);
        DUE.is("says(7, 0)", x.says(7, 0), 16);
        DUE.is("says(-1, 0)", x.says(-1, 0), -1);
        DUE.is("says(8, 0)", x.says(8, 0), -1);
        DUE.is("says(0, -1)", x.says(0, -1), -1);
        DUE.is("says(0, 7)", x.says(0, 7), -1);
        DUE.is("says(0, MIN)", x.says(0, MIN), -1);
        DUE.is("says(0, MAX)", x.says(0, MAX), -1);
        DUE.is("refused -1", x.status(11), 6);
    }

    @Promise(value = 8, says = {"-3.", "or the other way about"})
    private static void saysWhereNoComerIs() {
        TollForHesitators x = ofSeven();
        x.row(0, 0, 0);
        x.row(1, 3, 160);
        DUE.is("a ROW of no elements", x.says(0, 0), -2);
        DUE.is("a full ROW", x.says(1, 0), -2);
        DUE.is("NOTHING", x.says(2, 0), -3);
        DUE.is("refused -2", x.status(12), 2);
        DUE.is("refused -3", x.status(13), 1);
    }

    @Promise(value = 8, says = "COMER his NERVE;")
    private static void saysTheNerveAsItStands() {
        TollForHesitators x = ofSeven();
        x.show(0, 3);
        x.tell(3, 0, 0);
        DUE.is("NERVE 0", x.says(0, 0), 0);
        x.tell(3, 0, 30);
        DUE.is("NERVE 30", x.says(0, 0), 30);
    }
}
