/** Promises 27 to 31, sentence by sentence: the edges of told DAYS, of DAYS in truth and of DRAWS. */
public final class EdgeDayTest {
    private static final Due DUE = new Due("EdgeDayTest");
    private static final int MIN = Integer.MIN_VALUE;
    private static final int MAX = Integer.MAX_VALUE;

    public static void main(String[] args) {
        Suite.run(EdgeDayTest.class, DUE);
    }

    private static TollForHesitators fresh() {
        return new TollForHesitators();
    }

    /** With as many BLIND ones, of whom 0, 3 and 6 go freely, 1 and 4 pay, 2 and 5 turn BACK, whatever they see. */
    private static TollForHesitators with(int comers) {
        TollForHesitators x = fresh();
        for (int c = 0; c < comers; c++) {
            x.comer(1, 0, c % 3 == 0 ? 30 : 0, 8, c % 3 == 0 ? 0 : 9, c % 3 == 1 ? 5 : 4);
        }
        return x;
    }

    private static void judged(TollForHesitators x, int wrong, long... told) {
        Due.fill(x, 7, 2, told);
        DUE.is("judge " + java.util.Arrays.toString(told), x.judge(7, told.length), wrong);
    }

    // ---- 27: judge

    @Promise(value = 27, says = {"A told DAY by the first n elements (0 to 7) of the ROW in SHELF s: WRONG; NONE.",
        "A told DAY: a ROW of 10 times the COMER and 0 (freely), 1 (paid), 2 (BACK), one behind the other:"})
    private static void judgeFromNobodyToSeven() {
        TollForHesitators x = fresh();
        judged(x, -1);
        long[] told = {0, 11, 22, 30, 41, 52, 60};
        x = with(7);
        judged(x, -1);
        for (int n = 1; n <= 7; n++) {
            long[] first = java.util.Arrays.copyOf(told, n);
            judged(x, -1, first);
            for (int more = 1; more <= 2; more++) {
                long[] wrong = first.clone();
                wrong[n - 1] = told[n - 1] / 10 * 10 + (told[n - 1] % 10 + more) % 3;
                judged(x, n - 1, wrong);
            }
        }
        judged(x, -1, 60, 52, 41, 30, 22, 11, 0);
        DUE.is("nothing is refused", x.status(16), 0);
    }

    @Promise(value = 27, says = {"-11; -12; -13; -14 n; -15 fewer elements; -16 n above 7 (counted as -1 to -6)."})
    private static void judgeOfMoreThanThereIsAndOfMoreThanSeven() {
        TollForHesitators x = with(7);
        Due.fill(x, 0, 2, 0, 11, 22, 30, 41, 52, 60);
        Due.fill(x, 1, 2, 0, 11, 22, 30, 41, 52, 60, 0);
        x.row(2, 2, 0);
        DUE.is("7 of 7", x.judge(0, 7), -1);
        DUE.is("8 of 7", x.judge(0, 8), -15);
        DUE.is("7 of 8", x.judge(1, 7), -1);
        DUE.is("8 of 8", x.judge(1, 8), -16);
        DUE.is("9 of 8", x.judge(1, 9), -15);
        DUE.is("MAX of 8", x.judge(1, MAX), -15);
        DUE.is("-1 of 8", x.judge(1, -1), -14);
        DUE.is("MIN of 8", x.judge(1, MIN), -14);
        DUE.is("0 of 0", x.judge(2, 0), -1);
        DUE.is("1 of 0", x.judge(2, 1), -15);
        x.show(3, 0);
        int[][] calls = {{-1, -11}, {8, -11}, {MIN, -11}, {MAX, -11}, {3, -12}, {4, -13}};
        for (int[] c : calls) {
            DUE.is("judge(" + c[0] + ", 0)", x.judge(c[0], 0), c[1]);
        }
        int[] counts = {4, 1, 1, 2, 4, 1, 0};
        for (int r = 1; r <= 7; r++) {
            DUE.is("counted as -" + r, x.status(10 + r), counts[r - 1]);
        }
    }

    @Promise(value = 27, says = "WRONG: the first that is none, was there already, or isn't so")
    private static void judgeWhatIsNone() {
        TollForHesitators x = with(2);
        judged(x, -1, 0, 11);
        // no such way to go, no such COMER, nothing below 0
        long[] none = {3, 4, 9, 13, 19, 20, 21, 22, 30, 70, 320, 640, -1, -2, -9, -10, -11, -20, MIN, MAX};
        for (long n : none) {
            judged(x, 0, n);
            judged(x, 1, 0, n);
            judged(x, 0, n, 0);
        }
        TollForHesitators y = fresh();
        judged(y, 0, 0);
        judged(y, 0, 1);
    }

    @Promise(value = 27, says = "was there already")
    private static void judgeWhoWasThereAlready() {
        TollForHesitators x = with(7);
        judged(x, 1, 0, 0);
        judged(x, 1, 11, 11);
        judged(x, 2, 0, 11, 0);
        judged(x, 6, 0, 11, 22, 30, 41, 52, 0);
        judged(x, 6, 0, 11, 22, 30, 41, 60, 60);
        judged(x, 1, 0, 1, 11);
    }

    @Promise(value = 27, says = "WRONG: the first that is none")
    private static void judgeTheFirstOfSeveral() {
        TollForHesitators x = with(3);
        judged(x, 0, 1, 3, 1);
        judged(x, 1, 0, 3, 0);
        judged(x, 1, 0, 10, 3);
        judged(x, 2, 0, 11, 0, 3);
        judged(x, 2, 0, 11, 21, 0);
    }

    @Promise(value = 27, says = "(who is just behind one is the next that is told, if that may be one;")
    private static void judgeByTheNextThatIsTold() {
        // 0, THROWN, goes freely if half of the NERVE behind him is 1
        TollForHesitators x = fresh();
        x.comer(3, 0, 0, 8, 0, 5);
        x.comer(1, 0, 2, 8, 0, 0);
        x.comer(1, 0, 1, 8, 0, 0);
        judged(x, -1, 1);
        judged(x, -1, 0, 10);
        judged(x, 0, 1, 10);
        judged(x, -1, 1, 20);
        judged(x, 0, 0, 20);
        // not the one after the next
        judged(x, 0, 0, 20, 10);
        judged(x, -1, 1, 20, 10);
        // told wrong, yet one who may be
        judged(x, 1, 0, 11);
        judged(x, 1, 0, 12);
        // told beyond n
        Due.fill(x, 0, 2, 1, 10);
        DUE.is("the first alone", x.judge(0, 1), -1);
        DUE.is("both", x.judge(0, 2), 0);
    }

    @Promise(value = 27, says = {"In a told DAY, an element that is none, or was there already, is nobody",
        "who stands behind, and its place is told."})
    private static void judgeByNobodyWhereTheNextIsNone() {
        // 0, THROWN, goes freely if half of the NERVE behind him is 1; all others have it
        TollForHesitators x = fresh();
        x.comer(3, 0, 0, 8, 0, 5);
        x.comer(1, 0, 30, 8, 0, 0);
        x.comer(1, 0, 30, 8, 0, 0);
        long[] none = {3, 13, 19, 23, 29, 30, 40, -1, -10, -11, -19, -20, MIN, MAX};
        for (long n : none) {
            judged(x, 0, 0, n);
            judged(x, 1, 1, n);
        }
        // no COMER 0 by an element just below 0
        TollForHesitators y = fresh();
        y.comer(1, 0, 30, 8, 0, 0);
        y.comer(3, 0, 0, 8, 0, 5);
        judged(y, -1, 10, 0);
        for (int below = -1; below >= -12; below--) {
            judged(y, 0, 10, below);
            judged(y, 1, 11, below);
        }
        // himself, with his own NERVE
        x.tell(0, 0, 0);
        judged(x, 0, 0, 0);
        judged(x, 1, 1, 1);
        // one who was there ahead: led by a NERVE of 30 with a LOAD of 9 and DOUBT, he would need 1 more
        x = fresh();
        x.comer(3, 0, 0, 8, 9, 5);
        x.comer(1, 0, 30, 8, 0, 0);
        x.comer(1, 0, 30, 8, 0, 0);
        x.tell(0, 2, 22);
        judged(x, -1, 10, 0, 20);
        judged(x, 1, 10, 0, 10);
        judged(x, 2, 10, 1, 10);
        judged(x, 1, 10, 1, 20);
        judged(x, -1, 10, 1);
    }

    @Promise(value = 27, says = "SEEN by those ahead as they really go); NONE.")
    private static void judgeBySeen() {
        // 0 pays, 2 turns BACK, 3 goes freely; 1 bears nothing SEEN
        TollForHesitators x = fresh();
        x.comer(0, 0, 0, 8, 0, 5);
        x.comer(0, 0, 1, 8, 0, 5);
        x.comer(0, 0, 0, 8, 0, 4);
        x.comer(1, 0, 30, 8, 0, 0);
        judged(x, -1, 1, 11);
        judged(x, 1, 1, 10);
        judged(x, -1, 22, 10);
        judged(x, 1, 22, 11);
        judged(x, -1, 1, 30, 10);
        judged(x, -1, 30, 1, 10);
        judged(x, -1, 1, 22, 11, 30);
        judged(x, 2, 1, 22, 10, 30);
    }

    @Promise(value = 27, says = "Just ahead and just behind are by the ORDER, also of one who turns BACK.")
    private static void judgeByOneWhoTurnsBack() {
        // 0 turns BACK; 1, LED, and 2, THROWN, go freely by his NERVE alone
        TollForHesitators x = fresh();
        x.comer(1, 0, 9, 8, 9, 0);
        x.comer(2, 0, 0, 8, 0, 5);
        x.comer(3, 0, 0, 8, 0, 5);
        judged(x, -1, 11);
        judged(x, -1, 2, 10);
        judged(x, 1, 2, 11);
        judged(x, -1, 21);
        judged(x, -1, 20, 2);
        judged(x, 0, 21, 2);
        judged(x, -1, 20, 2, 10);
    }

    @Promise(value = 27, says = "or isn't so")
    private static void judgeWithJustEnough() {
        TollForHesitators x = with(2);
        x.ask(2, 99);
        x.tell(1, 1, 99);
        judged(x, -1, 11);
        judged(x, 0, 12);
        x.tell(1, 1, 98);
        judged(x, 0, 11);
        judged(x, -1, 12);
        x.tell(1, 0, 18);
        judged(x, -1, 10);
        judged(x, 0, 11);
        judged(x, 0, 12);
    }

    @Promise(value = {27, 28, 29}, says = "Elements of a ROW that tell COMERS are taken as ints.")
    private static void toldDaysAsInts() {
        TollForHesitators x = with(7);
        for (int sort = 0; sort <= 3; sort++) {
            Due.fill(x, 0, sort, 60, 52, 0);
            DUE.is("judge of sort " + sort, x.judge(0, 3), -1);
        }
        Due.fill(x, 0, 3, (1L << 32) + 60, (-1L << 32) + 52, Long.MIN_VALUE);
        DUE.is("judge of longs", x.judge(0, 3), -1);
        DUE.is("behind of longs", x.behind(0, 3, 1), 2);
        DUE.is("done of longs", x.done(0, 3), 1);
        Due.fill(x, 0, 3, (1L << 32) - 10);
        DUE.is("a long that is -10 as an int", x.judge(0, 1), 0);
        Due.fill(x, 0, 2, 256);
        DUE.is("no bytes: 256", x.judge(0, 1), 0);
    }

    // ---- 28: behind

    @Promise(value = 28, says = {"BEHIND it: paid (what 0), freely (1), BACK (2).",
        "BEHIND it: what is paid, how many went freely, how many BACK."})
    private static void behindFromNobodyToSeven() {
        TollForHesitators x = with(7);
        Due.fill(x, 0, 2, 0, 11, 22, 30, 41, 52, 60);
        int[][] due = {{0, 0, 0}, {0, 1, 0}, {5, 1, 0}, {5, 1, 1}, {5, 2, 1}, {10, 2, 1}, {10, 2, 2}, {10, 3, 2}};
        for (int n = 0; n <= 7; n++) {
            for (int what = 0; what <= 2; what++) {
                DUE.is("behind(0, " + n + ", " + what + ")", x.behind(0, n, what), due[n][what]);
            }
        }
        x = fresh();
        x.row(0, 0, 0);
        for (int what = 0; what <= 2; what++) {
            DUE.is("nobody, of no COMERS", x.behind(0, 0, what), 0);
        }
        // all seven pay the most
        x.ask(2, 99);
        for (int c = 0; c <= 6; c++) {
            x.comer(1, 0, 0, 8, 9, 99);
        }
        Due.fill(x, 0, 2, 1, 11, 21, 31, 41, 51, 61);
        DUE.is("all pay", x.behind(0, 7, 0), 693);
    }

    @Promise(value = 28, says = {"-5 also another what;", "-4;"})
    private static void behindOfAnotherWhatAndOfMore() {
        TollForHesitators x = with(7);
        Due.fill(x, 0, 2, 0, 11, 22, 30, 41, 52, 60);
        x.row(1, 2, 8);
        int[] others = {-1, 3, MIN, MAX};
        for (int what : others) {
            DUE.is("what " + what, x.behind(0, 1, what), -5);
        }
        DUE.is("8 of 7", x.behind(0, 8, 0), -5);
        DUE.is("MAX of 7", x.behind(0, MAX, 0), -5);
        DUE.is("8 of 8", x.behind(1, 8, 0), -6);
        DUE.is("-1 of 7", x.behind(0, -1, 0), -4);
        DUE.is("MIN of 7", x.behind(0, MIN, 0), -4);
        DUE.is("refused -4", x.status(14), 2);
        DUE.is("refused -5", x.status(15), 6);
        DUE.is("refused -6", x.status(16), 1);
    }

    @Promise(value = {28, 29}, says = {"-6 also if it is WRONG.", "what can't be as things stand.", "-1; -2; -3; -4; -5; -6 likewise.", "-1; -2; -3; -4;"})
    private static void behindAndDoneOfWhatIsWrong() {
        TollForHesitators x = with(7);
        Due.fill(x, 0, 2, 1, 11, 22);
        Due.fill(x, 1, 2, 0, 11, 22, 30, 41, 52, 61);
        Due.fill(x, 2, 2, 0, 0);
        Due.fill(x, 3, 2, 70);
        int[][] wrong = {{0, 1}, {0, 3}, {1, 7}, {2, 2}, {3, 1}};
        for (int[] w : wrong) {
            DUE.is("behind(" + w[0] + ", " + w[1] + ", 0)", x.behind(w[0], w[1], 0), -6);
            DUE.is("done(" + w[0] + ", " + w[1] + ")", x.done(w[0], w[1]), -6);
        }
        DUE.is("refused -6", x.status(16), 10);
        DUE.is("one fewer: behind", x.behind(1, 6, 0), 10);
        DUE.is("no DAY has gone by", x.status(5), 0);
        DUE.is("one fewer: done", x.done(1, 6), 1);
    }

    @Promise(value = {28, 29}, says = {"-1; -2; -3; -4;", "-1; -2; -3; -4; -5; -6 likewise."})
    private static void behindAndDoneOfNoRow() {
        TollForHesitators x = with(1);
        x.show(1, 0);
        int[][] calls = {{-1, -1}, {8, -1}, {MIN, -1}, {MAX, -1}, {1, -2}, {0, -3}, {7, -3}};
        for (int[] c : calls) {
            DUE.is("behind(" + c[0] + ", 0, 0)", x.behind(c[0], 0, 0), c[1]);
            DUE.is("done(" + c[0] + ", 0)", x.done(c[0], 0), c[1]);
        }
        DUE.is("refused -1", x.status(11), 8);
        DUE.is("refused -2", x.status(12), 2);
        DUE.is("refused -3", x.status(13), 4);
    }

    // ---- 29: done

    @Promise(value = 29, says = {"It comes to pass in truth: DAYS.", "DAYS is 1 more."})
    private static void doneFromNobodyToSeven() {
        TollForHesitators x = fresh();
        x.row(0, 0, 0);
        DUE.is("nobody, of no COMERS", x.done(0, 0), 1);
        DUE.is("again", x.done(0, 0), 2);
        DUE.is("DAYS", x.status(5), 2);
        x = with(7);
        Due.fill(x, 0, 2, 0, 11, 22, 30, 41, 52, 60, 0);
        DUE.is("nobody", x.done(0, 0), 1);
        DUE.is("all", x.done(0, 7), 2);
        int[] nerve = {30, 0, 0, 30, 0, 0, 30};
        int[] purse = {4, 0, 4, 4, 0, 4, 4};
        int[] doubt = {0, 1, 0, 0, 1, 0, 0};
        for (int c = 0; c <= 6; c++) {
            DUE.is("NERVE of " + c, x.comerOf(c, 2), nerve[c]);
            DUE.is("PURSE of " + c, x.comerOf(c, 5), purse[c]);
            DUE.is("DOUBT of " + c, x.comerOf(c, 6), doubt[c]);
        }
        DUE.is("FOG is as it was", x.status(2), 0);
        DUE.is("SEED is as it was", x.status(8), 1);
    }

    @Promise(value = 29, says = "-1; -2; -3; -4; -5; -6 likewise.")
    private static void doneOfMoreThanThereIsAndOfMoreThanSeven() {
        TollForHesitators x = with(7);
        Due.fill(x, 0, 2, 0, 11, 22, 30, 41, 52, 60);
        x.row(1, 2, 8);
        DUE.is("8 of 7", x.done(0, 8), -5);
        DUE.is("MAX of 7", x.done(0, MAX), -5);
        DUE.is("8 of 8", x.done(1, 8), -6);
        DUE.is("-1 of 7", x.done(0, -1), -4);
        DUE.is("MIN of 7", x.done(0, MIN), -4);
        DUE.is("refused -4", x.status(14), 2);
        DUE.is("refused -5", x.status(15), 2);
        DUE.is("refused -6", x.status(16), 1);
        DUE.is("no DAY has gone by", x.status(5), 0);
    }

    @Promise(value = 29, says = "who paid has TOLL less, DOUBT 1 more (30 at most);")
    private static void donePaysToTheLast() {
        TollForHesitators x = fresh();
        x.ask(2, 99);
        x.comer(1, 0, 0, 8, 9, 99);
        x.comer(1, 0, 0, 8, 9, 999);
        x.tell(0, 2, 29);
        x.tell(1, 2, 30);
        Due.fill(x, 0, 2, 11, 1);
        DUE.is("done", x.done(0, 2), 1);
        DUE.is("PURSE of 0", x.comerOf(0, 5), 0);
        DUE.is("PURSE of 1", x.comerOf(1, 5), 900);
        DUE.is("DOUBT of 0", x.comerOf(0, 6), 30);
        DUE.is("DOUBT of 1", x.comerOf(1, 6), 30);
        DUE.is("NERVE of 0", x.comerOf(0, 2), 0);
        DUE.is("0 can't pay any more", x.done(0, 2), -6);
        DUE.is("1 can", x.done(0, 1), 2);
        DUE.is("PURSE of 1", x.comerOf(1, 5), 801);
        DUE.is("DOUBT of 1", x.comerOf(1, 6), 30);
    }

    @Promise(value = 29, says = "who went freely NERVE 1 more (30 at most), DOUBT 1 less (0 at least);")
    private static void doneGoesFreelyToTheMost() {
        TollForHesitators x = fresh();
        x.comer(1, 0, 29, 8, 0, 7);
        x.comer(1, 0, 30, 8, 0, 7);
        x.comer(1, 0, 2, 8, 0, 7);
        x.tell(0, 2, 1);
        x.tell(2, 2, 2);
        Due.fill(x, 0, 2, 20, 10, 0);
        int[][] due = {{30, 0, 30, 0, 3, 1}, {30, 0, 30, 0, 4, 0}, {30, 0, 30, 0, 5, 0}};
        for (int day = 0; day < 3; day++) {
            DUE.is("done", x.done(0, 3), day + 1);
            for (int c = 0; c < 3; c++) {
                DUE.is("NERVE of " + c, x.comerOf(c, 2), due[day][2 * c]);
                DUE.is("DOUBT of " + c, x.comerOf(c, 6), due[day][2 * c + 1]);
                DUE.is("PURSE of " + c, x.comerOf(c, 5), 7);
            }
        }
    }

    @Promise(value = 29, says = "IN TRUTH: a told DAY:")
    private static void doneLeavesWhoTurnedBackAndWhoDidntCome() {
        TollForHesitators x = with(7);
        for (int c = 0; c <= 6; c++) {
            x.tell(c, 2, 3);
        }
        Due.fill(x, 0, 2, 22, 11);
        DUE.is("done", x.done(0, 2), 1);
        for (int c = 0; c <= 6; c++) {
            DUE.is("NERVE of " + c, x.comerOf(c, 2), c % 3 == 0 ? 30 : 0);
            DUE.is("PURSE of " + c, x.comerOf(c, 5), c == 1 ? 0 : c % 3 == 1 ? 5 : 4);
            DUE.is("DOUBT of " + c, x.comerOf(c, 6), c == 1 ? 4 : 3);
        }
    }

    // ---- 30: days

    @Promise(value = 30, says = {"DAYS by draws, n of them (1 to 60): what was paid together.", "-5 no COMERS; -6.",
        "DAYS by draws, n times: FOG becomes a DRAW below 10;"})
    private static void daysOfOneAndOfSixty() {
        TollForHesitators x = with(1);
        DUE.is("days(1)", x.days(1), 0);
        DUE.is("DAYS", x.status(5), 1);
        DUE.is("FOG", x.status(2), 8);
        DUE.is("days(60)", x.days(60), 0);
        DUE.is("DAYS", x.status(5), 61);
        int fog = x.status(2);
        int seed = x.status(8);
        DUE.is("days(0)", x.days(0), -6);
        DUE.is("days(61)", x.days(61), -6);
        DUE.is("days(-1)", x.days(-1), -6);
        DUE.is("days(MIN)", x.days(MIN), -6);
        DUE.is("days(MAX)", x.days(MAX), -6);
        DUE.is("refused -6", x.status(16), 5);
        DUE.is("DAYS", x.status(5), 61);
        DUE.is("no DRAW was made", x.status(8), seed);
        DUE.is("FOG", x.status(2), fog);
        // sixty at once are sixty one by one
        TollForHesitators y = with(1);
        for (int day = 0; day <= 60; day++) {
            y.days(1);
        }
        DUE.is("SEED", y.status(8), seed);
        DUE.is("FOG", y.status(2), fog);
    }

    @Promise(value = 30, says = "-5 no COMERS; -6.")
    private static void daysOfNoComers() {
        TollForHesitators x = fresh();
        int[] ns = {0, 1, 60, 61, MIN, MAX};
        for (int n : ns) {
            DUE.is("days(" + n + ")", x.days(n), -5);
        }
        DUE.is("refused -5", x.status(15), 6);
        DUE.is("refused -6", x.status(16), 0);
        DUE.is("DAYS", x.status(5), 0);
        DUE.is("SEED", x.status(8), 1);
        x.comer(1, 0, 0, 1, 0, 0);
        DUE.is("days(1)", x.days(1), 0);
    }

    @Promise(value = 30, says = {"all come in ORDER by numbers; what was paid together.", "PURSE (0 to 999)"})
    private static void daysUntilAllIsPaid() {
        TollForHesitators x = fresh();
        x.ask(2, 99);
        for (int c = 0; c <= 6; c++) {
            x.comer(1, 0, 0, 8, 9, 999);
        }
        // each pays 99 for ten days, and turns BACK with the 9 that he has left
        DUE.is("days(10)", x.days(10), 6930);
        DUE.is("days(1)", x.days(1), 0);
        DUE.is("PURSES together", x.status(7), 63);
        for (int c = 0; c <= 6; c++) {
            DUE.is("DOUBT", x.comerOf(c, 6), 10);
        }
        x.ask(2, 1);
        DUE.is("days(60)", x.days(60), 63);
        DUE.is("PURSES together", x.status(7), 0);
        for (int c = 0; c <= 6; c++) {
            DUE.is("DOUBT", x.comerOf(c, 6), 19);
            DUE.is("NERVE", x.comerOf(c, 2), 0);
        }
        x = fresh();
        x.ask(2, 1);
        x.comer(1, 0, 0, 8, 9, 999);
        DUE.is("a DOUBT of 30 at most", x.days(60), 60);
        DUE.is("DOUBT", x.comerOf(0, 6), 30);
    }

    @Promise(value = 30, says = "who went freely NERVE 1 more (30 at most), DOUBT 1 less (0 at least);")
    private static void daysUntilTheMostNerve() {
        TollForHesitators x = fresh();
        x.comer(1, 0, 5, 8, 0, 999);
        x.tell(0, 2, 5);
        DUE.is("days(4)", x.days(4), 0);
        DUE.is("NERVE", x.comerOf(0, 2), 9);
        DUE.is("DOUBT", x.comerOf(0, 6), 1);
        DUE.is("days(60)", x.days(60), 0);
        DUE.is("NERVE", x.comerOf(0, 2), 30);
        DUE.is("DOUBT", x.comerOf(0, 6), 0);
        DUE.is("PURSE", x.comerOf(0, 5), 999);
    }

    @Promise(value = 30, says = "DAYS by draws, n times: FOG becomes a DRAW below 10; all come in ORDER by numbers;")
    private static void daysInTheFogThatIsDrawn() {
        // SEED 1 draws FOGS of 8 and 6; one look, and a DOUBT of 1 after he has paid
        TollForHesitators x = fresh();
        x.comer(0, 0, 8, 8, 0, 99);
        DUE.is("9 are above 8", x.days(1), 5);
        DUE.is("8 are not", x.days(1), 0);
        // SEED 0 draws FOGS of 0 and 6, whatever FOG it was
        x = fresh();
        x.seed(0);
        x.ask(1, 9);
        x.comer(0, 0, 1, 8, 0, 99);
        DUE.is("1 is not above 1", x.days(1), 0);
        DUE.is("7 are above 2", x.days(1), 5);
    }

    @Promise(value = 30, says = "all come in ORDER by numbers;")
    private static void daysInOrderByNumbersAsEachDayBegins() {
        // SEED 0 draws a FOG of 0: 0 goes freely; 1, LED by the NERVE of 4 that 0 had, needs 5
        TollForHesitators x = fresh();
        x.seed(0);
        x.comer(1, 0, 4, 8, 0, 99);
        x.comer(2, 0, 0, 8, 4, 99);
        DUE.is("days(1)", x.days(1), 5);
        DUE.is("FOG", x.status(2), 0);
        DUE.is("NERVE of 0", x.comerOf(0, 2), 5);
        x.seed(0);
        x.tell(1, 2, 0);
        DUE.is("days(1), by 5", x.days(1), 0);
        // THROWN by the NERVE of the one behind
        x = fresh();
        x.seed(0);
        x.comer(3, 0, 0, 8, 0, 99);
        x.comer(1, 0, 1, 8, 0, 99);
        DUE.is("half of 1", x.days(1), 5);
        x.seed(0);
        x.tell(0, 2, 0);
        DUE.is("half of 2", x.days(1), 0);
    }

    // ---- 30, 31: DRAWS

    @Promise(value = {30, 31}, says = {"A DRAW below n: SEED (1 at first) becomes SEED times 1103515245, and 12345 (an int, wrapping);",
        "its upper 16 bits, no sign, modulo n."})
    private static void drawsWrapAndHaveNoSign() {
        // SEED, what it becomes, and its upper 16 bits modulo 10
        int[][] draws = {
            {1, 1103527590, 8}, {1103527590, -1770082073, 6}, {0, 12345, 0}, {12345, -740551042, 6}, {-1, -1103502900, 7},
            {-1103502900, 288979989, 9}, {MAX, 1043980748, 9}, {MIN, -2147471303, 8}, {3, -984409216, 5}
        };
        TollForHesitators x = with(1);
        for (int[] d : draws) {
            x.seed(d[0]);
            x.days(1);
            DUE.is("SEED from " + d[0], x.status(8), d[1]);
            DUE.is("FOG from " + d[0], x.status(2), d[2]);
        }
    }

    @Promise(value = 31, says = "SEED becomes v: what it was (nothing is refused).")
    private static void seedBecomesWhateverItIsTold() {
        TollForHesitators x = fresh();
        int[] seeds = {MIN, MAX, 0, -1, 1, MIN};
        int was = 1;
        for (int v : seeds) {
            DUE.is("seed(" + v + ")", x.seed(v), was);
            DUE.is("status(8)", x.status(8), v);
            was = v;
        }
        for (int what = 11; what <= 17; what++) {
            DUE.is("status(" + what + ")", x.status(what), 0);
        }
    }
}
