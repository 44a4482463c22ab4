import java.lang.management.ManagementFactory;

/** All calls of a run live in one room: what the dearest ones leave there. */
public final class RoomTest {
    private static final Due DUE = new Due("RoomTest");
    private static final int CALLS = 220;
    // seven new COMERS, the most that a text can tell of, take less; no call makes more
    private static final long MOST_BYTES = 400;
    // SHELVES hold 160 longs each, the rest is small
    private static final long MOST_OF_AN_OBJECT = 16_000;

    public static void main(String[] args) {
        com.sun.management.ThreadMXBean threads = (com.sun.management.ThreadMXBean) ManagementFactory.getThreadMXBean();
        for (int round = 0; round < 2; round++) {
            for (int call = 0; call < 12; call++) {
                TollForHesitators x = ready();
                long before = threads.getCurrentThreadAllocatedBytes();
                for (int i = 0; i < CALLS; i++) {
                    make(x, call, i);
                }
                long bytes = threads.getCurrentThreadAllocatedBytes() - before;
                // the first round also loads classes
                if (round == 1) {
                    DUE.holds("call " + call + " leaves " + bytes, bytes < CALLS * MOST_BYTES);
                }
            }
            anObject(threads, round == 1);
        }
        DUE.end();
    }

    private static void anObject(com.sun.management.ThreadMXBean threads, boolean counts) {
        long before = threads.getCurrentThreadAllocatedBytes();
        TollForHesitators x = new TollForHesitators();
        long bytes = threads.getCurrentThreadAllocatedBytes() - before;
        DUE.holds("an object takes " + bytes, !counts || bytes < MOST_OF_AN_OBJECT && x.status(0) == 0);
    }

    private static TollForHesitators ready() {
        TollForHesitators x = new TollForHesitators();
        for (int c = 0; c < 5; c++) {
            x.comer(c, 3, 4 + 2 * c, 1 + c, c % 3, 30 * c);
        }
        Due.write(x, 0, 0, "comer 1 2 3 4 5 6;comer 2 2 3 4 5 6;way 5;x");
        x.row(1, 2, 160);
        Due.fill(x, 2, 2, 4, 3, 2, 1, 0);
        return x;
    }

    private static void make(TollForHesitators x, int call, int i) {
        switch (call) {
            case 0:
                x.best(i % 5);
                break;
            case 1:
                x.pushes(1);
                break;
            case 2:
                x.road(0);
                break;
            case 3:
                x.row(3, 3, 160);
                break;
            case 4:
                x.next(1, 40, 0);
                break;
            case 5:
                x.days(60);
                break;
            case 6:
                x.image();
                x.restore();
                break;
            case 7:
                x.order(2, 5, 3);
                break;
            case 8:
                x.act(3, 2, i);
                break;
            case 9:
                x.copy(1, 1, 0, 1, 159);
                break;
            case 10:
                x.leader(1);
                break;
            default:
                x.practise(1, 1, 0);
        }
    }
}
