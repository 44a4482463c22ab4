/** Promises 18 to 20: an ORDER, the BEST ORDER, PUSHES. */
public final class OrderTest {
    private static final Due DUE = new Due("OrderTest");

    public static void main(String[] args) {
        Suite.run(OrderTest.class, DUE);
    }

    /** What comes of the ORDER: freely, pay, BACK, what is paid, who pays, who turns BACK. */
    private static void of(TollForHesitators x, long[] members, int... due) {
        Due.fill(x, 7, 2, members);
        for (int what = 0; what < 6; what++) {
            DUE.is("order " + java.util.Arrays.toString(members) + ": " + what, x.order(7, members.length, what), due[what]);
        }
    }

    private static long[] row(long... members) {
        return members;
    }

    @Promise(18)
    private static void orderSeen() {
        TollForHesitators x = new TollForHesitators();
        of(x, row(), 0, 0, 0, 0, 0, 0);
        // all take one look; 0 and 3 always pay, 2 always turns BACK, 1, 5 and 6 slow by what they see
        x.comer(0, 0, 0, 8, 0, 5);
        x.comer(0, 0, 1, 8, 0, 9);
        x.comer(0, 0, 0, 8, 0, 4);
        x.comer(0, 0, 0, 9, 0, 999);
        x.comer(1, 0, 9, 8, 0, 0);
        x.comer(0, 0, 2, 8, 0, 9);
        x.comer(1, 0, 0, 8, 0, 5);
        of(x, row(0), 0, 1, 0, 5, 1, 0);
        of(x, row(1), 1, 0, 0, 0, 0, 0);
        of(x, row(2), 0, 0, 1, 0, 0, 4);
        of(x, row(0, 1), 0, 2, 0, 10, 3, 0);
        of(x, row(1, 0), 1, 1, 0, 5, 1, 0);
        of(x, row(2, 1), 1, 0, 1, 0, 0, 4);
        of(x, row(0, 2, 1), 0, 2, 1, 10, 3, 4);
        of(x, row(0, 4, 1), 2, 1, 0, 5, 1, 0);
        of(x, row(4, 1, 0, 3, 5), 3, 2, 0, 10, 9, 0);
        of(x, row(0, 3, 5), 0, 3, 0, 15, 41, 0);
        of(x, row(0, 3, 4, 5), 2, 2, 0, 10, 9, 0);
        of(x, row(4, 0, 3, 1), 1, 3, 0, 15, 11, 0);
        of(x, row(0, 6), 0, 2, 0, 10, 65, 0);
        of(x, row(6, 0), 1, 1, 0, 5, 1, 0);
        x.ask(2, 6);
        of(x, row(0, 6), 1, 0, 1, 0, 0, 1);
        of(x, row(3, 6), 0, 1, 1, 6, 8, 64);
        x.ask(2, 99);
        of(x, row(3, 1, 5), 1, 1, 1, 99, 8, 2);
        x.ask(2, 5);
        x.ask(1, 1);
        of(x, row(1), 0, 1, 0, 5, 2, 0);
        of(x, row(5), 1, 0, 0, 0, 0, 0);
        x.tell(5, 2, 1);
        of(x, row(5), 0, 1, 0, 5, 32, 0);
        DUE.is("nothing is changed", x.comerOf(5, 5) * 100 + x.comerOf(5, 2) * 10 + x.comerOf(5, 6), 921);
        DUE.is("nor the DAYS", x.status(5), 0);
    }

    @Promise(18)
    private static void orderKinds() {
        TollForHesitators x = new TollForHesitators();
        // one look each; the LED one bears 1, behind whoever has it
        x.comer(2, 0, 0, 8, 0, 5);
        x.comer(0, 0, 1, 8, 0, 4);
        x.comer(3, 0, 0, 8, 0, 5);
        x.comer(3, 0, 1, 8, 2, 5);
        x.comer(0, 0, 7, 8, 0, 5);
        of(x, row(0), 0, 1, 0, 5, 1, 0);
        of(x, row(1, 0), 2, 0, 0, 0, 0, 0);
        of(x, row(0, 1), 0, 1, 1, 5, 1, 2);
        of(x, row(0, 4), 1, 1, 0, 5, 1, 0);
        of(x, row(4, 1, 0), 3, 0, 0, 0, 0, 0);
        // led by the one just ahead, also if he turns BACK
        x.tell(1, 2, 1);
        of(x, row(1, 0), 1, 0, 1, 0, 0, 2);
        x.tell(1, 2, 0);
        // LED behind THROWN: his NERVE as it stands
        of(x, row(2, 0), 0, 2, 0, 10, 5, 0);
        of(x, row(4, 2, 0), 2, 1, 0, 5, 1, 0);
        // THROWN: half of the NERVE behind him, cut
        of(x, row(2), 0, 1, 0, 5, 4, 0);
        of(x, row(2, 1), 0, 1, 1, 5, 4, 2);
        of(x, row(2, 4), 2, 0, 0, 0, 0, 0);
        x.tell(1, 0, 2);
        of(x, row(2, 1), 2, 0, 0, 0, 0, 0);
        x.tell(1, 0, 1);
        // the greater one of both, and the half
        of(x, row(3), 0, 1, 0, 5, 8, 0);
        of(x, row(1, 3, 4), 3, 0, 0, 0, 0, 0);
        x.tell(4, 0, 3);
        of(x, row(1, 3, 4), 2, 1, 0, 5, 8, 0);
        of(x, row(3, 4), 1, 1, 0, 5, 8, 0);
        x.tell(4, 0, 4);
        of(x, row(3, 4), 2, 0, 0, 0, 0, 0);
        of(x, row(4, 3), 2, 0, 0, 0, 0, 0);
        // just behind one is also who turns BACK
        x.tell(4, 1, 0);
        x.tell(4, 2, 9);
        of(x, row(3, 4), 1, 0, 1, 0, 0, 16);
        of(x, row(4, 3), 1, 0, 1, 0, 0, 16);
    }

    @Promise(18)
    private static void orderOfSeven() {
        TollForHesitators x = new TollForHesitators();
        for (int c = 0; c < 7; c++) {
            x.comer(0, 0, c, 8, 0, 99);
        }
        of(x, row(0, 1, 2, 3, 4, 5, 6), 0, 7, 0, 35, 127, 0);
        of(x, row(6, 5, 4, 3, 2, 1, 0), 6, 1, 0, 5, 1, 0);
        of(x, row(0, 2, 1, 3, 4, 5, 6), 6, 1, 0, 5, 1, 0);
        x.ask(1, 9);
        x.ask(2, 99);
        of(x, row(6, 0, 5, 1, 4, 2, 3), 0, 7, 0, 693, 127, 0);
        for (int c = 0; c < 7; c++) {
            x.tell(c, 1, 98);
        }
        of(x, row(6, 0, 5, 1, 4, 2, 3), 0, 0, 7, 0, 0, 127);
    }

    @Promise(18)
    private static void orderRefusals() {
        TollForHesitators x = new TollForHesitators();
        x.comer(0, 0, 9, 8, 0, 0);
        x.comer(0, 0, 9, 8, 0, 0);
        x.show(1, 0);
        Due.fill(x, 0, 2, 0, 1, 0, 2, -1, 0, 0, 0, 0, 0);
        int[][] calls = {
            {-1, -1, 6, 1}, {8, 0, 0, 1}, {1, -1, 6, 2}, {2, -1, 6, 3}, {0, -1, 6, 4}, {0, 11, 0, 5}, {0, 2, 6, 5},
            {0, 2, -1, 5}, {0, 8, 6, 5}, {0, Integer.MAX_VALUE, 0, 5}, {0, 8, 0, 6}, {0, 10, 0, 6}, {0, 3, 0, 6},
            {0, 4, 0, 6}
        };
        int[] counts = new int[8];
        for (int[] c : calls) {
            DUE.is("order(" + c[0] + ", " + c[1] + ", " + c[2] + ")", x.order(c[0], c[1], c[2]), -c[3]);
            counts[c[3]]++;
        }
        Due.fill(x, 3, 2, 0, 2);
        DUE.is("a COMER that isn't there", x.order(3, 2, 0), -6);
        Due.fill(x, 3, 2, -1, 0);
        DUE.is("a COMER that isn't there", x.order(3, 2, 0), -6);
        Due.fill(x, 3, 2, 1, 1);
        DUE.is("twice", x.order(3, 2, 0), -6);
        Due.fill(x, 3, 2, 32, 0);
        DUE.is("far", x.order(3, 2, 0), -6);
        DUE.is("the first n alone", x.order(0, 2, 0), 2);
        Due.fill(x, 3, 3, (1L << 32) + 1, 1L << 33);
        DUE.is("longs as ints", x.order(3, 2, 0), 2);
        Due.fill(x, 3, 0, 1, 0);
        DUE.is("bytes", x.order(3, 2, 0), 2);
        counts[6] += 4;
        for (int r = 1; r <= 6; r++) {
            DUE.is("refused -" + r, x.status(10 + r), counts[r]);
        }
    }

    private static void isBest(TollForHesitators x, int paid, int back, int... members) {
        DUE.is("best(-1)", x.best(-1), paid);
        DUE.is("best(-2)", x.best(-2), back);
        for (int i = 0; i < members.length; i++) {
            DUE.is("best(" + i + ")", x.best(i), members[i]);
        }
    }

    @Promise(19)
    private static void best() {
        TollForHesitators x = new TollForHesitators();
        isBest(x, 0, 0);
        DUE.is("best of nobody", x.best(0), -15);
        x.comer(0, 0, 0, 8, 0, 5);
        isBest(x, 5, 0, 0);
        x.comer(0, 0, 1, 8, 0, 5);
        isBest(x, 5, 0, 1, 0);
        x.ask(2, 6);
        isBest(x, 0, 1, 0, 1);
        x.ask(2, 5);
        DUE.is("best -15", x.best(2), -15);
        DUE.is("best -15", x.best(-3), -15);
        DUE.is("best -15", x.best(Integer.MIN_VALUE), -15);
        DUE.is("best -15", x.best(Integer.MAX_VALUE), -15);
        DUE.is("counted as -5", x.status(15), 5);
        DUE.is("nothing is changed", x.comerOf(0, 5), 5);
    }

    @Promise(19)
    private static void bestTies() {
        TollForHesitators x = new TollForHesitators();
        // one strong, and two LED of whom just one can be led: the one who can't pay
        x.comer(0, 0, 5, 8, 0, 0);
        x.comer(2, 0, 0, 8, 0, 99);
        x.comer(2, 0, 0, 8, 0, 4);
        isBest(x, 5, 0, 0, 2, 1);
        x.tell(2, 1, 5);
        isBest(x, 5, 0, 0, 1, 2);
        // the FOG makes all turn BACK or pay, in any ORDER
        x.ask(1, 9);
        isBest(x, 10, 1, 0, 1, 2);
        x.ask(1, 0);
        // THROWN needs 3 just behind him
        x = new TollForHesitators();
        x.comer(3, 0, 0, 8, 0, 5);
        x.comer(1, 0, 1, 8, 0, 5);
        x.comer(1, 0, 1, 8, 0, 5);
        x.comer(1, 0, 2, 8, 0, 5);
        isBest(x, 0, 0, 0, 3, 1, 2);
        // dear, but nobody turns BACK: 0 and 1 pay 99 each, so that 2 is led
        x = new TollForHesitators();
        x.ask(2, 99);
        x.comer(2, 0, 0, 8, 0, 999);
        x.comer(2, 0, 0, 8, 0, 999);
        x.comer(2, 0, 0, 8, 0, 0);
        x.comer(0, 0, 1, 8, 0, 999);
        isBest(x, 198, 0, 3, 2, 0, 1);
        x.tell(2, 1, 99);
        isBest(x, 198, 0, 3, 0, 1, 2);
    }

    @Promise(19)
    private static void bestOfSeven() {
        TollForHesitators x = new TollForHesitators();
        for (int c = 0; c < 7; c++) {
            x.comer(0, 0, c, 8, 0, 99);
        }
        // 0 pays wherever he comes; 1 must not come just behind him alone
        isBest(x, 5, 0, 0, 2, 1, 3, 4, 5, 6);
        x.ask(1, 9);
        x.ask(2, 99);
        isBest(x, 693, 0, 0, 1, 2, 3, 4, 5, 6);
        for (int c = 0; c < 7; c++) {
            x.tell(c, 1, 98);
        }
        isBest(x, 0, 7, 0, 1, 2, 3, 4, 5, 6);
        x.ask(1, 0);
        isBest(x, 0, 1, 0, 1, 2, 3, 4, 5, 6);
        for (int c = 0; c < 7; c++) {
            x.tell(c, 0, 30);
        }
        isBest(x, 0, 0, 0, 1, 2, 3, 4, 5, 6);
    }

    private static void pushed(TollForHesitators x, int bits, int sum) {
        DUE.is("pushes(0)", x.pushes(0), bits);
        DUE.is("pushes(1)", x.pushes(1), sum);
    }

    @Promise(20)
    private static void pushes() {
        TollForHesitators x = new TollForHesitators();
        pushed(x, 0, 0);
        x.comer(0, 0, 0, 8, 0, 5);
        pushed(x, 1, 1);
        x.ask(3, 4);
        pushed(x, 1, 4);
        x.ask(3, 5);
        pushed(x, 0, 5);
        x.ask(3, 99);
        pushed(x, 0, 5);
        x.ask(2, 6);
        pushed(x, 1, 99);
        x.ask(2, 5);
        // 1 pays behind one who pays; a pushed one goes freely for him
        x.comer(0, 0, 1, 8, 0, 5);
        pushed(x, 0, 10);
        x.ask(3, 9);
        pushed(x, 1, 9);
        x.ask(3, 10);
        pushed(x, 0, 10);
        // 0 goes freely, 1 slows: pushed 0 would be no help
        x.tell(0, 0, 9);
        x.tell(1, 0, 0);
        x.ask(3, 2);
        pushed(x, 2, 2);
        // by numbers, whatever ORDER was told ahead
        of(x, row(1, 0), 1, 1, 0, 5, 2, 0);
        pushed(x, 2, 2);
        x.tell(0, 0, 0);
        of(x, row(1), 0, 1, 0, 5, 2, 0);
        pushed(x, 3, 4);
        // just ahead of one LED, pushed or not
        x = new TollForHesitators();
        x.comer(0, 0, 0, 8, 0, 0);
        x.comer(2, 0, 0, 8, 0, 5);
        pushed(x, 3, 2);
        x.tell(0, 0, 1);
        pushed(x, 0, 0);
        x.ask(1, 1);
        pushed(x, 3, 2);
        x.ask(3, 5);
        pushed(x, 1, 10);
        DUE.is("pushes -5", x.pushes(2), -5);
        DUE.is("pushes -5", x.pushes(-1), -5);
        DUE.is("refused -5", x.status(15), 2);
        DUE.is("nothing is changed", x.comerOf(1, 5), 5);
    }

    @Promise(20)
    private static void pushesOfSeven() {
        TollForHesitators x = new TollForHesitators();
        for (int c = 0; c < 7; c++) {
            x.comer(0, 0, c, 8, 0, 99);
        }
        // all pay behind 0, who pays; he alone is pushed, and all go freely
        pushed(x, 1, 1);
        x.ask(1, 9);
        pushed(x, 127, 7);
        x.ask(3, 6);
        pushed(x, 0, 35);
        x.ask(2, 99);
        pushed(x, 127, 42);
        x.ask(3, 99);
        pushed(x, 0, 693);
        for (int c = 0; c < 7; c++) {
            x.tell(c, 1, c % 2 == 0 ? 98 : 99);
        }
        pushed(x, 1 + 4 + 16 + 64, 4 * 99 + 3 * 99);
    }
}
