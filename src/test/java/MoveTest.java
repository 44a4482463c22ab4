/** Promises 32 to 36: MOVES, THE TRACE, THE IMAGE, status. */
public final class MoveTest {
    private static final Due DUE = new Due("MoveTest");

    public static void main(String[] args) {
        Suite.run(MoveTest.class, DUE);
    }

    private static void acted(TollForHesitators x, int comer, int move, int v, int due, int... bodies) {
        String call = "act(" + comer + ", " + move + ", " + v + ")";
        DUE.is(call, x.act(comer, move, v), due);
        DUE.is("bodies of " + call, x.status(9), bodies.length);
        for (int i = 0; i < bodies.length; i++) {
            DUE.is("trace(" + i + ") of " + call, x.trace(i), bodies[i]);
        }
        DUE.is("trace behind " + call, x.trace(bodies.length), -1);
        DUE.is("trace ahead of " + call, x.trace(-1), -1);
    }

    @Promise({32, 33})
    private static void actByKinds() {
        TollForHesitators x = new TollForHesitators();
        for (int kind = 0; kind <= 6; kind++) {
            x.comer(kind, 3, 0, 1, 0, 0);
        }
        // x is 10, k is 3, m is the number (and the KIND)
        acted(x, 0, 0, 10, 10, 10);
        acted(x, 0, 1, 10, 20, 11, 10);
        acted(x, 0, 2, 10, 20 ^ 7, 12, 11, 10, 10);
        acted(x, 1, 0, 10, 11, 10);
        acted(x, 1, 1, 10, 25, 20, 11, 10);
        acted(x, 1, 2, 10, 25 ^ 8, 12, 20, 11, 10, 10);
        acted(x, 2, 0, 10, 36, 30, 10);
        acted(x, 2, 1, 10, 72, 11, 30, 10);
        acted(x, 2, 2, 10, 72 ^ 27, 12, 11, 30, 10, 30, 10);
        acted(x, 3, 0, 10, 42, 40, 30, 10);
        acted(x, 3, 1, 10, 84, 11, 40, 30, 10);
        acted(x, 3, 2, 10, 84 ^ 33, 12, 11, 40, 30, 10, 40, 30, 10);
        acted(x, 4, 0, 10, 10, 51, 10);
        acted(x, 4, 1, 10, 20, 11, 51, 10);
        acted(x, 4, 2, 10, -(20 ^ 7), 50, 12, 11, 51, 10, 51, 10);
        acted(x, 5, 0, 10, 10, 51, 10);
        acted(x, 5, 1, 10, 20, 11, 51, 10);
        acted(x, 5, 2, 10, -(20 ^ 7) ^ 5, 60, 50, 12, 11, 51, 10, 51, 10);
        acted(x, 6, 0, 10, 32, 70, 10);
        acted(x, 6, 1, 10, 55, 71, 20, 11, 70, 10);
        acted(x, 6, 2, 10, 55 ^ 26, 12, 71, 20, 11, 70, 10, 70, 10);
        DUE.is("trace far behind", x.trace(20), -1);
        DUE.is("trace far behind", x.trace(Integer.MAX_VALUE), -1);
        DUE.is("trace far ahead", x.trace(Integer.MIN_VALUE), -1);
        for (int what = 11; what <= 17; what++) {
            DUE.is("nothing is refused", x.status(what), 0);
        }
    }

    @Promise({32, 33})
    private static void actWraps() {
        int most = Integer.MAX_VALUE;
        int least = Integer.MIN_VALUE;
        TollForHesitators x = new TollForHesitators();
        for (int kind = 0; kind <= 6; kind++) {
            x.comer(kind, 9, 0, 1, 0, 0);
        }
        acted(x, 0, 1, most, -2, 11, 10);
        acted(x, 1, 0, most, least, 10);
        acted(x, 2, 0, most, (most + 2) * 3, 30, 10);
        acted(x, 3, 0, most, (least + 3) * 3, 40, 30, 10);
        acted(x, 4, 2, least, -(0 ^ (least - 9)), 50, 12, 11, 51, 10, 51, 10);
        acted(x, 6, 1, least, (least - 9 + 6) * 4 + 9, 71, 20, 11, 70, 10);
    }

    @Promise({32, 33})
    private static void actNone() {
        TollForHesitators x = new TollForHesitators();
        x.comer(3, 3, 0, 1, 0, 0);
        x.act(0, 2, 1);
        DUE.is("eight bodies", x.status(9), 8);
        acted(x, 1, 0, 5, 0);
        x.act(0, 2, 1);
        acted(x, -1, 0, 5, 0);
        x.act(0, 2, 1);
        acted(x, 0, 3, 5, 0);
        x.act(0, 2, 1);
        acted(x, 0, -1, 5, 0);
        x.act(0, 2, 1);
        acted(x, 0, 0, 1, 6, 40, 30, 10);
        for (int what = 11; what <= 17; what++) {
            DUE.is("nothing is refused", x.status(what), 0);
        }
    }

    @Promise({34, 35})
    private static void image() {
        TollForHesitators x = new TollForHesitators();
        DUE.is("restore -6", x.restore(), -6);
        DUE.is("image of nobody", x.image(), 0);
        x.comer(0, 0, 1, 2, 3, 4);
        x.comer(1, 0, 1, 2, 3, 4);
        DUE.is("restore", x.restore(), 0);
        DUE.is("nobody is there", x.status(0), 0);
        DUE.is("a new one", x.comer(5, 1, 2, 3, 4, 5), 0);
        DUE.is("his KIND", x.comerOf(0, 0), 5);
        DUE.is("image", x.image(), 1);
        DUE.is("restore", x.restore(), 1);
        DUE.is("restore again", x.restore(), 1);
        DUE.is("refused -6", x.status(16), 1);
    }

    private static int[] all(TollForHesitators x) {
        int[] values = new int[9 + 49];
        for (int what = 0; what < 9; what++) {
            values[what] = x.status(what);
        }
        for (int c = 0; c < 7; c++) {
            for (int what = 0; what < 7; what++) {
                values[9 + 7 * c + what] = x.comerOf(c, what);
            }
        }
        return values;
    }

    private static void same(String when, int[] got, int[] due) {
        for (int i = 0; i < due.length; i++) {
            DUE.is(when + ": " + i, got[i], due[i]);
        }
    }

    @Promise({34, 35})
    private static void imageKeepsAll() {
        TollForHesitators x = new TollForHesitators();
        for (int c = 0; c < 5; c++) {
            x.comer(c, c, 5 + c, 1 + c, c, 100 + c);
            x.tell(c, 2, 3 * c);
        }
        x.ask(0, 11);
        x.ask(1, 4);
        x.ask(2, 9);
        x.ask(3, 7);
        x.seed(77);
        x.days(3);
        int[] first = all(x);
        DUE.is("image", x.image(), 5);
        x.tell(0, 0, 30);
        x.tell(1, 1, 999);
        x.tell(2, 2, 30);
        x.ask(0, 12);
        x.ask(1, 9);
        x.ask(2, 10);
        x.ask(3, 8);
        x.days(2);
        x.comer(6, 9, 9, 9, 9, 9);
        int[] second = all(x);
        DUE.is("restore", x.restore(), 5);
        same("as the IMAGE has it", all(x), first);
        DUE.is("another one", x.comer(4, 1, 1, 1, 1, 1), 5);
        x.days(9);
        DUE.is("restore", x.restore(), 5);
        same("THE IMAGE stays as it was", all(x), first);
        DUE.is("by his KIND", x.act(3, 0, 1), 15);
        x.days(2);
        DUE.is("a new IMAGE", x.image(), 5);
        int[] third = all(x);
        x.days(1);
        DUE.is("restore", x.restore(), 5);
        same("as the new IMAGE has it", all(x), third);
        DUE.holds("that isn't the first", third[5] != first[5] && second[0] == 6);
    }

    @Promise({34, 35})
    private static void imageLeavesTheRest() {
        TollForHesitators x = new TollForHesitators();
        x.comer(3, 3, 0, 1, 0, 0);
        Due.write(x, 0, 0, "way 5x");
        x.image();
        x.road(0);
        x.act(0, 2, 1);
        x.set(0, 0, 1);
        x.row(1, 2, 3);
        x.restore();
        DUE.is("the FAULT stays", x.fault(), 5);
        DUE.is("THE TRACE stays", x.trace(2), 40);
        DUE.is("its length too", x.status(9), 8);
        DUE.is("REFUSALS stay", x.status(16), 1);
        DUE.is("ROWS stay", x.holds(1), 102);
        DUE.is("their elements too", x.element(0, 0), 1);
    }

    @Promise(35)
    private static void restoreShelves() {
        TollForHesitators x = new TollForHesitators();
        x.comer(0, 0, 4, 1, 0, 0);
        x.comer(2, 0, 5, 6, 0, 0);
        x.image();
        x.comer(1, 0, 6, 1, 7, 0);
        x.show(0, 0);
        x.show(1, 1);
        x.show(2, 2);
        x.show(3, 2);
        x.row(4, 1, 2);
        x.tell(0, 0, 9);
        DUE.is("restore", x.restore(), 2);
        int[] held = {0, 1, -1, -1, 101, -1, -1, -1};
        for (int s = 0; s < 8; s++) {
            DUE.is("holds(" + s + ")", x.holds(s), held[s]);
        }
        DUE.is("he says what THE IMAGE has", x.says(0, 0), 4);
        DUE.is("says -3", x.says(2, 0), -3);
        x.comer(4, 0, 1, 1, 1, 1);
        DUE.is("the next one isn't on that SHELF", x.holds(2), -1);
        // other COMERS of the same numbers
        x = new TollForHesitators();
        x.image();
        x.comer(1, 0, 0, 1, 7, 0);
        x.show(0, 0);
        x.show(1, 0);
        DUE.is("restore", x.restore(), 0);
        DUE.is("holds(0)", x.holds(0), -1);
        DUE.is("holds(1)", x.holds(1), -1);
    }

    @Promise(36)
    private static void status() {
        TollForHesitators x = new TollForHesitators();
        x.comer(0, 0, 7, 1, 0, 100);
        x.comer(0, 0, 8, 1, 0, 900);
        x.ask(0, 13);
        x.ask(1, 6);
        x.ask(2, 22);
        x.ask(3, 33);
        x.seed(-5);
        x.row(0, 2, 1);
        x.done(0, 0);
        x.act(0, 1, 1);
        int[] due = {2, 13, 6, 22, 33, 1, 15, 1000, -5, 2};
        for (int what = 0; what < due.length; what++) {
            DUE.is("status(" + what + ")", x.status(what), due[what]);
        }
        int[] others = {-1, 10, 18, 100, Integer.MIN_VALUE, Integer.MAX_VALUE};
        for (int what : others) {
            DUE.is("status(" + what + ")", x.status(what), -1);
        }
        // each refusal as many times as its number
        x.show(1, 0);
        for (int i = 0; i < 1; i++) {
            x.tell(9, 0, 0);
        }
        for (int i = 0; i < 2; i++) {
            x.set(1, 0, 0);
        }
        for (int i = 0; i < 3; i++) {
            x.set(2, 0, 0);
        }
        for (int i = 0; i < 4; i++) {
            x.row(3, 0, -1);
        }
        for (int i = 0; i < 5; i++) {
            x.set(0, 1, 0);
        }
        for (int i = 0; i < 6; i++) {
            x.rest(0);
        }
        for (int i = 0; i < 7; i++) {
            x.row(3, 0, 161);
        }
        for (int r = 1; r <= 7; r++) {
            DUE.is("refused -" + r, x.status(10 + r), r);
        }
        DUE.is("status refuses nothing", x.status(15), 5);
    }
}
