/** Promises 27 to 31: told DAYS, DAYS in truth, DAYS by draws, SEED. */
public final class DayTest {
    private static final Due DUE = new Due("DayTest");

    public static void main(String[] args) {
        Suite.run(DayTest.class, DUE);
    }

    private static void judged(TollForHesitators x, int wrong, long... told) {
        Due.fill(x, 7, 2, told);
        DUE.is("judge " + java.util.Arrays.toString(told), x.judge(7, told.length), wrong);
    }

    @Promise(27)
    private static void judge() {
        TollForHesitators x = new TollForHesitators();
        judged(x, -1);
        judged(x, 0, 0);
        // one look each: 0 always pays, 1 slows by what he sees, 2 always turns BACK
        x.comer(0, 0, 0, 8, 0, 5);
        x.comer(0, 0, 1, 8, 0, 5);
        x.comer(0, 0, 0, 8, 0, 4);
        judged(x, -1);
        judged(x, 0, 0);
        judged(x, -1, 1);
        judged(x, 0, 2);
        judged(x, -1, 10);
        judged(x, 0, 11);
        judged(x, 0, 12);
        judged(x, 0, 20);
        judged(x, 0, 21);
        judged(x, -1, 22);
        judged(x, -1, 1, 11);
        judged(x, 1, 1, 10);
        judged(x, -1, 10, 1);
        judged(x, -1, 22, 10, 1);
        judged(x, 1, 22, 11, 1);
        judged(x, -1, 1, 22, 11);
        judged(x, 2, 1, 22, 10);
        judged(x, 1, 1, 21, 11);
        judged(x, 0, 0, 11, 22);
        x.ask(2, 6);
        judged(x, -1, 2, 10);
        judged(x, 0, 1, 10);
        x.ask(2, 4);
        judged(x, -1, 1, 11, 21);
        x.tell(1, 1, 3);
        judged(x, -1, 1, 12, 21);
        x.ask(1, 1);
        judged(x, -1, 12);
        DUE.is("nothing is changed", x.comerOf(0, 5) + x.status(5), 5);
        DUE.is("nothing is refused", x.status(16), 0);
    }

    @Promise(27)
    private static void judgeBehind() {
        TollForHesitators x = new TollForHesitators();
        // THROWN goes freely if 1, 2 or 3 is just behind him
        x.comer(3, 0, 0, 8, 0, 5);
        x.comer(0, 0, 2, 8, 0, 5);
        x.comer(0, 0, 3, 8, 9, 5);
        x.comer(0, 0, 9, 8, 0, 5);
        judged(x, -1, 1);
        judged(x, 0, 0);
        judged(x, -1, 0, 10);
        judged(x, 0, 1, 10);
        judged(x, -1, 0, 21);
        // who is behind him is told wrong, but may be one
        judged(x, 1, 0, 11);
        judged(x, 1, 0, 22);
        judged(x, 1, 0, 12, 30);
        // behind him is told what is none: nobody, and its own place if he went so
        judged(x, 0, 0, 13);
        judged(x, 1, 1, 13);
        judged(x, 1, 1, 19);
        judged(x, 0, 0, 40);
        judged(x, 1, 1, 40);
        judged(x, 1, 1, -1);
        judged(x, 1, 1, -10);
        judged(x, 1, 1, Integer.MIN_VALUE);
        judged(x, 1, 1, Integer.MAX_VALUE);
        judged(x, 0, 0, -10);
        // himself told again is nobody behind him
        judged(x, 1, 1, 1);
        judged(x, 1, 1, 0);
        judged(x, 0, 0, 0);
        // somebody from before is nobody behind him: led by 1, he goes freely all the same
        judged(x, 2, 10, 0, 10);
        x.tell(0, 2, 2);
        judged(x, 1, 10, 0, 10);
        judged(x, 2, 10, 1, 10);
        judged(x, -1, 10, 0, 30);
        judged(x, 1, 10, 1, 30);
        // only the first n are told
        Due.fill(x, 0, 2, 1, 30);
        DUE.is("the first alone", x.judge(0, 1), -1);
        DUE.is("both", x.judge(0, 2), 0);
        DUE.is("none", x.judge(0, 0), -1);
        // LED by the one just ahead as he is told
        x = new TollForHesitators();
        x.comer(2, 0, 0, 8, 0, 5);
        x.comer(0, 0, 1, 8, 0, 5);
        x.comer(0, 0, 0, 8, 0, 0);
        judged(x, -1, 10, 0);
        judged(x, -1, 10, 22, 1);
        judged(x, 2, 10, 22, 0);
        judged(x, -1, 22, 10, 0);
    }

    @Promise(27)
    private static void judgeNone() {
        TollForHesitators x = new TollForHesitators();
        for (int c = 0; c < 7; c++) {
            x.comer(1, 0, 9, 8, 0, 5);
        }
        judged(x, -1, 60, 50, 40, 30, 20, 10, 0);
        judged(x, 6, 60, 50, 40, 30, 20, 10, 60);
        judged(x, 6, 60, 50, 40, 30, 20, 10, 70);
        judged(x, 3, 60, 50, 40, 33, 20, 10, 0);
        judged(x, 3, 60, 50, 40, 31, 20, 10, 0);
        judged(x, 0, -1);
        judged(x, 0, 3);
        judged(x, 0, 70);
        Due.fill(x, 0, 3, (1L << 32) + 10, (3L << 32) + 20);
        DUE.is("longs as ints", x.judge(0, 2), -1);
        Due.fill(x, 0, 0, 60, 0);
        DUE.is("bytes", x.judge(0, 2), -1);
        x.row(1, 2, 8);
        DUE.is("judge -16", x.judge(1, 8), -16);
    }

    @Promise(28)
    private static void behind() {
        TollForHesitators x = new TollForHesitators();
        x.comer(0, 0, 0, 8, 0, 5);
        x.comer(0, 0, 1, 8, 0, 5);
        x.comer(0, 0, 0, 8, 0, 4);
        x.comer(0, 0, 9, 8, 0, 4);
        Due.fill(x, 0, 2, 1, 11, 22, 30);
        int[][] due = {{0, 0, 0}, {5, 0, 0}, {10, 0, 0}, {10, 0, 1}, {10, 1, 1}};
        for (int n = 0; n <= 4; n++) {
            for (int what = 0; what < 3; what++) {
                DUE.is("behind(0, " + n + ", " + what + ")", x.behind(0, n, what), due[n][what]);
            }
        }
        x.ask(2, 3);
        x.set(0, 2, 21);
        DUE.is("paid", x.behind(0, 4, 0), 9);
        DUE.is("nothing is changed", x.comerOf(0, 5) + x.status(5), 5);
    }

    @Promise(29)
    private static void done() {
        TollForHesitators x = new TollForHesitators();
        x.comer(0, 0, 0, 8, 0, 12);
        x.comer(0, 0, 9, 8, 0, 7);
        x.comer(0, 0, 0, 8, 0, 4);
        x.comer(0, 0, 0, 8, 0, 9);
        x.tell(0, 2, 2);
        x.tell(1, 2, 3);
        x.tell(2, 2, 4);
        x.tell(3, 2, 5);
        Due.fill(x, 0, 2, 1, 10, 22);
        DUE.is("done", x.done(0, 3), 1);
        DUE.is("who paid: PURSE", x.comerOf(0, 5), 7);
        DUE.is("who paid: DOUBT", x.comerOf(0, 6), 3);
        DUE.is("who paid: NERVE", x.comerOf(0, 2), 0);
        DUE.is("who went freely: PURSE", x.comerOf(1, 5), 7);
        DUE.is("who went freely: DOUBT", x.comerOf(1, 6), 2);
        DUE.is("who went freely: NERVE", x.comerOf(1, 2), 10);
        DUE.is("who turned BACK: PURSE", x.comerOf(2, 5), 4);
        DUE.is("who turned BACK: DOUBT", x.comerOf(2, 6), 4);
        DUE.is("who turned BACK: NERVE", x.comerOf(2, 2), 0);
        DUE.is("who didn't come", x.comerOf(3, 5) * 100 + x.comerOf(3, 6) * 10 + x.comerOf(3, 2), 950);
        DUE.is("DAYS", x.status(5), 1);
        DUE.is("FOG and SEED are as they were", x.status(2) + x.status(8), 1);
        DUE.is("a DAY on which nobody comes", x.done(0, 0), 2);
        DUE.is("the same again", x.done(0, 3), 3);
        DUE.is("he can't pay any more", x.done(0, 3), -6);
        DUE.is("nothing comes to pass", x.status(5), 3);
        DUE.is("PURSE", x.comerOf(0, 5), 2);
        DUE.is("NERVE", x.comerOf(1, 2), 11);
        DUE.is("refused -6", x.status(16), 1);
    }

    @Promise(29)
    private static void doneBounds() {
        TollForHesitators x = new TollForHesitators();
        x.comer(0, 0, 30, 8, 0, 0);
        x.comer(0, 0, 0, 8, 0, 999);
        x.comer(0, 0, 29, 8, 0, 0);
        x.tell(1, 2, 30);
        x.tell(2, 2, 1);
        x.ask(2, 99);
        Due.fill(x, 0, 2, 0, 11, 20);
        DUE.is("done", x.done(0, 3), 1);
        DUE.is("done", x.done(0, 3), 2);
        DUE.is("NERVE 30 at most", x.comerOf(0, 2), 30);
        DUE.is("DOUBT 0 at least", x.comerOf(0, 6), 0);
        DUE.is("DOUBT 30 at most", x.comerOf(1, 6), 30);
        DUE.is("PURSE", x.comerOf(1, 5), 801);
        DUE.is("NERVE 30 at most", x.comerOf(2, 2), 30);
        DUE.is("DOUBT 0 at least", x.comerOf(2, 6), 0);
    }

    @Promise({27, 28, 29})
    private static void refusals() {
        TollForHesitators x = new TollForHesitators();
        x.comer(0, 0, 9, 8, 0, 0);
        x.show(1, 0);
        x.row(0, 2, 9);
        x.row(3, 2, 2);
        int far = Integer.MAX_VALUE;
        // the row, n, and the refusal
        int[][] calls = {
            {-1, -1, 1}, {8, 0, 1}, {1, -1, 2}, {1, 8, 2}, {2, -1, 3}, {2, 0, 3}, {0, -1, 4}, {0, Integer.MIN_VALUE, 4},
            {3, 3, 5}, {3, 8, 5}, {0, 10, 5}, {0, far, 5}, {0, 8, 6}, {0, 9, 6}
        };
        int[] counts = new int[8];
        for (int[] c : calls) {
            String call = "(" + c[0] + ", " + c[1] + ")";
            DUE.is("judge" + call, x.judge(c[0], c[1]), -10 - c[2]);
            DUE.is("behind" + call, x.behind(c[0], c[1], 0), -c[2]);
            DUE.is("done" + call, x.done(c[0], c[1]), -c[2]);
            counts[c[2]] += 3;
        }
        DUE.is("behind -4 before -5", x.behind(0, -1, 3), -4);
        DUE.is("behind -3 before -5", x.behind(2, 0, 3), -3);
        DUE.is("behind -5 another what", x.behind(0, 1, 3), -5);
        DUE.is("behind -5 another what", x.behind(0, 1, -1), -5);
        DUE.is("behind -5 before -6", x.behind(0, 8, 3), -5);
        DUE.is("behind -5 before -6", x.behind(3, 2, 3), -5);
        DUE.is("behind -6 WRONG", x.behind(3, 2, 0), -6);
        DUE.is("done -6 WRONG", x.done(3, 2), -6);
        counts[3] += 1;
        counts[4] += 1;
        counts[5] += 4;
        counts[6] += 2;
        for (int r = 1; r <= 6; r++) {
            DUE.is("refused -" + r, x.status(10 + r), counts[r]);
        }
        DUE.is("no DAY has gone by", x.status(5), 0);
    }

    @Promise(30)
    private static void days() {
        TollForHesitators x = new TollForHesitators();
        // BLIND, and never slow; the FOGS drawn from SEED 1 are 8, 6, 3, 3, 9, 5
        x.comer(1, 0, 30, 8, 0, 0);
        int[] fogs = {8, 6, 3, 3, 9, 5};
        int[] seeds = {1103527590, -1770082073, 662824084, -999580867, -112468174, -1778682749};
        for (int day = 0; day < 6; day++) {
            DUE.is("days(1)", x.days(1), 0);
            DUE.is("FOG", x.status(2), fogs[day]);
            DUE.is("SEED", x.status(8), seeds[day]);
            DUE.is("DAYS", x.status(5), day + 1);
        }
        DUE.is("SEED becomes", x.seed(1), seeds[5]);
        DUE.is("days(5)", x.days(5), 0);
        DUE.is("FOG", x.status(2), 9);
        DUE.is("SEED", x.status(8), seeds[4]);
        DUE.is("DAYS", x.status(5), 11);
        DUE.is("days(60)", x.days(60), 0);
        DUE.is("DAYS", x.status(5), 71);
    }

    @Promise(30)
    private static void daysInTruth() {
        TollForHesitators x = new TollForHesitators();
        // one look: slows if FOG, DOUBT and 1 are above NERVE
        x.comer(0, 0, 7, 8, 0, 12);
        DUE.is("FOG 8: pays; 6 and a DOUBT: pays; 3: freely", x.days(3), 10);
        DUE.is("PURSE", x.comerOf(0, 5), 2);
        DUE.is("NERVE", x.comerOf(0, 2), 8);
        DUE.is("DOUBT", x.comerOf(0, 6), 1);
        DUE.is("FOG 3: freely; 9: turns BACK", x.days(2), 0);
        DUE.is("PURSE", x.comerOf(0, 5), 2);
        DUE.is("NERVE", x.comerOf(0, 2), 9);
        DUE.is("DOUBT", x.comerOf(0, 6), 0);
        DUE.is("DAYS", x.status(5), 5);

        // by numbers, as they stand when the day begins: 0 goes freely, 1 is led by the NERVE 0 had
        x = new TollForHesitators();
        x.comer(1, 0, 9, 8, 0, 99);
        x.comer(2, 0, 0, 8, 1, 99);
        DUE.is("FOG 8: 10 are above 9", x.days(1), 5);
        DUE.is("he who led has more NERVE", x.comerOf(0, 2), 10);
        DUE.is("FOG 6: 9 aren't above 10", x.days(1), 0);

        // SEEN by draws too
        x = new TollForHesitators();
        x.comer(1, 0, 0, 8, 9, 5);
        x.comer(1, 0, 2, 8, 1, 99);
        x.comer(0, 0, 29, 8, 9, 4);
        DUE.is("0 pays, 1 sees it and pays; then 0 turns BACK and 1 pays by his DOUBT", x.days(2), 15);
        DUE.is("NERVE of 2", x.comerOf(2, 2), 30);
        DUE.is("DOUBT of 1", x.comerOf(1, 6), 2);
        x.ask(2, 99);
        DUE.is("nobody can pay", x.days(1), 0);
        DUE.is("DOUBT of 1", x.comerOf(1, 6), 2);
    }

    @Promise(30)
    private static void daysRefusals() {
        TollForHesitators x = new TollForHesitators();
        DUE.is("days -5", x.days(1), -5);
        DUE.is("days -5 before -6", x.days(0), -5);
        DUE.is("days -5 before -6", x.days(61), -5);
        x.comer(0, 0, 9, 8, 0, 0);
        DUE.is("days -6", x.days(0), -6);
        DUE.is("days -6", x.days(61), -6);
        DUE.is("days -6", x.days(-1), -6);
        DUE.is("refused -5", x.status(15), 3);
        DUE.is("refused -6", x.status(16), 3);
        DUE.is("no DAY has gone by", x.status(5) + x.status(2), 0);
        DUE.is("no DRAW was made", x.status(8), 1);
    }

    @Promise(31)
    private static void seed() {
        TollForHesitators x = new TollForHesitators();
        DUE.is("SEED at first", x.seed(Integer.MIN_VALUE), 1);
        DUE.is("SEED", x.status(8), Integer.MIN_VALUE);
        DUE.is("what it was", x.seed(Integer.MAX_VALUE), Integer.MIN_VALUE);
        DUE.is("what it was", x.seed(0), Integer.MAX_VALUE);
        DUE.is("what it was", x.seed(-1), 0);
        x.comer(1, 0, 30, 8, 0, 0);
        x.days(1);
        DUE.is("SEED from -1", x.status(8), -1103502900);
        DUE.is("its upper bits have no sign", x.status(2), ((-1103502900) >>> 16) % 10);
        for (int what = 11; what <= 17; what++) {
            DUE.is("nothing is refused", x.status(what), 0);
        }
    }
}
