/** Promises 15 to 17 and 21 to 26, sentence by sentence: the edges of one who comes and of two who meet. */
public final class EdgeOneTest {
    private static final Due DUE = new Due("EdgeOneTest");
    private static final int MIN = Integer.MIN_VALUE;
    private static final int MAX = Integer.MAX_VALUE;

    public static void main(String[] args) {
        Suite.run(EdgeOneTest.class, DUE);
    }

    private static TollForHesitators fresh() {
        return new TollForHesitators();
    }

    /** With one COMER alone, whose PURSE is empty. */
    private static TollForHesitators one(int kind, int a, int nerve, int pace, int load) {
        TollForHesitators x = fresh();
        x.comer(kind, a, nerve, pace, load, 0);
        return x;
    }

    private static void noneRefused(TollForHesitators x) {
        for (int what = 11; what <= 17; what++) {
            DUE.is("status(" + what + ")", x.status(what), 0);
        }
    }

    // ---- 15: looks

    @Promise(value = 15, says = {"LOOKS: WAY by PACE, upward;", "LOOKS (what 0)", "paces to the GATE."})
    private static void looksOfEachWayAndPace() {
        for (int pace = 1; pace <= 9; pace++) {
            TollForHesitators x = one(0, 0, 0, pace, 0);
            for (int way = 1; way <= 20; way++) {
                int due = 0;
                while (due * pace < way) {
                    due++;
                }
                x.ask(0, way);
                DUE.is("WAY " + way + " by PACE " + pace, x.looks(0, 0), due);
            }
        }
    }

    @Promise(value = 15, says = "RUNNER 1.")
    private static void looksOfARunner() {
        int[][] cases = {{1, 1}, {20, 1}, {1, 9}, {20, 9}};
        for (int[] c : cases) {
            TollForHesitators x = one(6, 5, 0, c[1], 0);
            x.ask(0, c[0]);
            DUE.is("a RUNNER on " + c[0] + " by " + c[1], x.looks(0, 0), 1);
        }
        TollForHesitators x = one(1, 5, 0, 1, 0);
        x.ask(0, 20);
        DUE.is("a BLIND one is no RUNNER", x.looks(0, 0), 20);
    }

    @Promise(value = 15, says = {"STEP: what DOUBT grows by each look: COMER, LED, THROWN 1;", "BLIND 0;", "RUNNER a;",
        "DOUBTER 2;", "STANDER 2 and a.", "STEP (1)"})
    private static void stepsAtTheLeastAndTheMost() {
        int[] least = {1, 0, 1, 1, 2, 2, 0};
        int[] most = {1, 0, 1, 1, 2, 11, 9};
        for (int kind = 0; kind <= 6; kind++) {
            DUE.is("KIND " + kind + ", a is 0", one(kind, 0, 30, 9, 9).looks(0, 1), least[kind]);
            DUE.is("KIND " + kind + ", a is 9", one(kind, 9, 0, 1, 0).looks(0, 1), most[kind]);
        }
    }

    @Promise(value = 15, says = {"BURDEN: FOG and LOAD;", "BLIND, RUNNER: twice LOAD, no FOG.", "BURDEN (2)"})
    private static void burdensAtTheLeastAndTheMost() {
        for (int kind = 0; kind <= 6; kind++) {
            boolean twice = kind == 1 || kind == 6;
            for (int fog = 0; fog <= 9; fog += 9) {
                for (int load = 0; load <= 9; load += 9) {
                    TollForHesitators x = one(kind, 9, 30, 9, load);
                    x.ask(1, fog);
                    DUE.is("KIND " + kind + ", FOG " + fog + ", LOAD " + load, x.looks(0, 2), twice ? 2 * load : fog + load);
                }
            }
        }
    }

    @Promise(value = 15, says = {"COURAGE ALONE (3).", "(ahead of one) or nobody: his NERVE;", "ALONE: as if nobody else came."})
    private static void courageAloneWhoeverElseIsThere() {
        for (int kind = 0; kind <= 6; kind++) {
            TollForHesitators x = fresh();
            x.comer(0, 0, 30, 1, 0, 0);
            x.comer(kind, 0, 0, 1, 0, 0);
            x.comer(0, 0, 30, 1, 0, 0);
            DUE.is("KIND " + kind + ", NERVE 0", x.looks(1, 3), 0);
            x.tell(1, 0, 30);
            DUE.is("KIND " + kind + ", NERVE 30", x.looks(1, 3), 30);
        }
    }

    @Promise(value = 15, says = {"-1;", "-5 another what."})
    private static void looksOfNobodyAndOfAnother() {
        TollForHesitators x = fresh();
        DUE.is("no COMERS yet", x.looks(0, 0), -1);
        x.comer(0, 0, 7, 1, 0, 0);
        DUE.is("looks(0, 3)", x.looks(0, 3), 7);
        DUE.is("looks(1, 0)", x.looks(1, 0), -1);
        DUE.is("looks(-1, 0)", x.looks(-1, 0), -1);
        DUE.is("looks(MIN, 0)", x.looks(MIN, 0), -1);
        DUE.is("looks(MAX, 0)", x.looks(MAX, 0), -1);
        DUE.is("looks(0, -1)", x.looks(0, -1), -5);
        DUE.is("looks(0, 4)", x.looks(0, 4), -5);
        DUE.is("looks(0, MIN)", x.looks(0, MIN), -5);
        DUE.is("looks(0, MAX)", x.looks(0, MAX), -5);
        DUE.is("refused -1", x.status(11), 5);
        DUE.is("refused -5", x.status(15), 4);
    }

    // ---- 16: slow

    /** He SLOWS in no FOG with this NERVE at the look. */
    private static void slows(TollForHesitators x, int nerve, int look) {
        x.tell(0, 0, nerve);
        DUE.is("slow with a NERVE of " + nerve, x.slow(0, 0), look);
    }

    @Promise(value = 16, says = {"He SLOWS at the first look k (1, 2, .. LOOKS)", "k times STEP together are above COURAGE;",
        "SLOW of one ALONE in a FOG: the look;"})
    private static void atTheFirstLookAboveCourageUpToTheLast() {
        // 8 looks; look k is above a NERVE below k
        TollForHesitators x = one(0, 9, 0, 1, 0);
        for (int nerve = 0; nerve <= 7; nerve++) {
            slows(x, nerve, nerve + 1);
        }
        slows(x, 8, -1);
        slows(x, 30, -1);
        // 3 looks
        x = one(0, 9, 0, 3, 0);
        slows(x, 0, 1);
        slows(x, 2, 3);
        slows(x, 3, -1);
        // 20 looks
        x = one(0, 9, 0, 1, 0);
        x.ask(0, 20);
        slows(x, 19, 20);
        slows(x, 20, -1);
        // 1 look
        x.ask(0, 1);
        slows(x, 0, 1);
        slows(x, 1, -1);
    }

    @Promise(value = 16, says = "k times STEP together are above COURAGE;")
    private static void bySteps() {
        // DOUBTER: 2 a look, 8 looks
        TollForHesitators x = one(4, 9, 0, 1, 0);
        slows(x, 0, 1);
        slows(x, 1, 1);
        slows(x, 2, 2);
        slows(x, 14, 8);
        slows(x, 15, 8);
        slows(x, 16, -1);
        // STANDER, a is 9: 11 a look
        x = one(5, 9, 0, 1, 0);
        slows(x, 10, 1);
        slows(x, 11, 2);
        slows(x, 21, 2);
        slows(x, 22, 3);
        slows(x, 30, 3);
        x.ask(0, 2);
        slows(x, 22, -1);
        // RUNNER, a is 9: 9 at his only look
        x = one(6, 9, 0, 1, 0);
        slows(x, 8, 1);
        slows(x, 9, -1);
    }

    @Promise(value = 16, says = {"NONE: he goes through freely.", "BLIND 0;"})
    private static void noStepNoLaterLook() {
        int[] kinds = {1, 6};
        for (int kind : kinds) {
            // BLIND, and a RUNNER whose a is 0: twice LOAD at the first look, or never
            TollForHesitators x = one(kind, 0, 0, 1, 3);
            x.ask(0, 20);
            slows(x, 0, 1);
            slows(x, 5, 1);
            slows(x, 6, -1);
            slows(x, 30, -1);
        }
        TollForHesitators x = one(1, 9, 0, 1, 0);
        slows(x, 0, -1);
    }

    @Promise(value = 16, says = {"at which DOUBT, SEEN, BURDEN", "DOUBT (0 to 30;"})
    private static void byDoubtUpToItsMost() {
        TollForHesitators x = one(1, 9, 30, 1, 0);
        x.tell(0, 2, 30);
        slows(x, 30, -1);
        slows(x, 29, 1);
        x = one(0, 9, 30, 1, 0);
        x.tell(0, 2, 30);
        slows(x, 30, 1);
        x.tell(0, 2, 29);
        slows(x, 30, 2);
        x.tell(0, 2, 23);
        slows(x, 30, 8);
        x.tell(0, 2, 22);
        slows(x, 30, -1);
    }

    @Promise(value = 16, says = {"SLOW; NONE. -11; -16 (counted as -1, -6).", "NONE. BRAVE"})
    private static void slowInTheFirstAndTheLastFog() {
        TollForHesitators x = one(0, 9, 9, 8, 0);
        DUE.is("slow(0, 0)", x.slow(0, 0), -1);
        DUE.is("slow(0, 8)", x.slow(0, 8), -1);
        DUE.is("slow(0, 9)", x.slow(0, 9), 1);
        DUE.is("slow(0, -1)", x.slow(0, -1), -16);
        DUE.is("slow(0, 10)", x.slow(0, 10), -16);
        DUE.is("slow(0, MIN)", x.slow(0, MIN), -16);
        DUE.is("slow(0, MAX)", x.slow(0, MAX), -16);
        DUE.is("counted as -6", x.status(16), 4);
        DUE.is("FOG is as it was", x.status(2), 0);
    }

    @Promise(value = 16, says = "-11; -16 (counted as -1, -6).")
    private static void slowOfNobody() {
        TollForHesitators x = fresh();
        DUE.is("no COMERS yet", x.slow(0, 0), -11);
        x.comer(0, 0, 9, 8, 0, 0);
        DUE.is("slow(1, 0)", x.slow(1, 0), -11);
        DUE.is("slow(-1, 0)", x.slow(-1, 0), -11);
        DUE.is("slow(MIN, 0)", x.slow(MIN, 0), -11);
        DUE.is("slow(MAX, 0)", x.slow(MAX, 0), -11);
        DUE.is("-11 before -16", x.slow(1, 10), -11);
        DUE.is("counted as -1", x.status(11), 6);
        DUE.is("not as -6", x.status(16), 0);
    }

    @Promise(value = 16, says = "ALONE: as if nobody else came.")
    private static void slowAloneWhoeverElseIsThere() {
        int[] kinds = {0, 2, 3};
        for (int kind : kinds) {
            TollForHesitators x = fresh();
            x.comer(0, 0, 0, 8, 9, 999);
            x.comer(kind, 0, 1, 8, 0, 0);
            x.comer(0, 0, 30, 8, 0, 999);
            DUE.is("bears his only look", x.slow(1, 0), -1);
            x.tell(1, 0, 0);
            DUE.is("doesn't", x.slow(1, 0), 1);
        }
    }

    // ---- 17: brave

    @Promise(value = 17, says = {"BRAVE (comer NONE), FOGS of one.", "BRAVE: COMERS (bits) who SLOW in no FOG 0 to 9, ALONE.",
        "FOGS: in how many of them one SLOWS."})
    private static void braveByTheLastFog() {
        TollForHesitators x = one(0, 0, 0, 8, 0);
        for (int nerve = 0; nerve <= 11; nerve++) {
            x.tell(0, 0, nerve);
            DUE.is("FOGS with a NERVE of " + nerve, x.brave(0), Math.max(0, 10 - nerve));
            DUE.is("BRAVE with a NERVE of " + nerve, x.brave(-1), nerve >= 10 ? 1 : 0);
        }
        x.ask(1, 9);
        DUE.is("the FOG that is doesn't matter", x.brave(-1), 1);
        DUE.is("FOG is as it was", x.status(2), 9);
    }

    @Promise(value = 17, says = "COMERS (bits)")
    private static void braveFromNobodyToAll() {
        TollForHesitators x = fresh();
        DUE.is("nobody there", x.brave(-1), 0);
        int bits = 0;
        for (int c = 0; c <= 6; c++) {
            x.comer(0, 0, c % 2 == 0 ? 10 : 9, 8, 0, 0);
            bits += c % 2 == 0 ? 1 << c : 0;
            DUE.is("BRAVE", x.brave(-1), bits);
        }
        for (int c = 0; c <= 6; c++) {
            x.tell(c, 0, 10);
        }
        DUE.is("all", x.brave(-1), 127);
        for (int c = 0; c <= 6; c++) {
            x.tell(c, 0, 0);
        }
        DUE.is("none", x.brave(-1), 0);
        noneRefused(x);
    }

    @Promise(value = 17, says = "FOGS of one. -1.")
    private static void fogsOfNobody() {
        TollForHesitators x = fresh();
        DUE.is("no COMERS yet", x.brave(0), -1);
        x.comer(0, 0, 9, 8, 0, 0);
        DUE.is("brave(0)", x.brave(0), 1);
        DUE.is("brave(1)", x.brave(1), -1);
        DUE.is("brave(-2)", x.brave(-2), -1);
        DUE.is("brave(MIN)", x.brave(MIN), -1);
        DUE.is("brave(MAX)", x.brave(MAX), -1);
        DUE.is("refused -1", x.status(11), 5);
    }

    // ---- 21: practise

    private static void practised(TollForHesitators x, int c, int times, int sum) {
        DUE.is("PRACTISE at " + c, x.practise(0, c, 0), times);
        DUE.is("the sum at " + c, x.practise(0, c, 1), sum);
    }

    @Promise(value = 21, says = "PRACTISE of one: n times (0 to 20) at cost c each")
    private static void practisedNotAtAllAndTwentyTimes() {
        // one look, LOAD 9 and DOUBT 1: ten FOGS up to a NERVE of 10, none from 20 on
        TollForHesitators x = one(0, 0, 0, 8, 9);
        x.tell(0, 2, 1);
        x.ask(2, 99);
        practised(x, 49, 20, 980);
        practised(x, 50, 0, 990);
        // with a DOUBT of 2 the twenty-first would help, but can't be
        x.tell(0, 2, 2);
        practised(x, 1, 20, 20 + 99);
        // nothing to gain
        practised(one(0, 0, 10, 8, 0), 1, 0, 0);
    }

    @Promise(value = 21, says = {"(1 to 99), NERVE being n more", "-6 c."})
    private static void practisedAtTheLeastAndTheMostCost() {
        // one look: as many FOGS as NERVE is short of 10
        TollForHesitators x = one(0, 0, 0, 8, 0);
        x.ask(2, 99);
        practised(x, 1, 10, 10);
        practised(x, 98, 10, 980);
        practised(x, 99, 0, 990);
        DUE.is("c is 0", x.practise(0, 0, 0), -6);
        DUE.is("c is 100", x.practise(0, 100, 1), -6);
        DUE.is("c is MIN", x.practise(0, MIN, 0), -6);
        DUE.is("c is MAX", x.practise(0, MAX, 1), -6);
        DUE.is("refused -6", x.status(16), 4);
        DUE.is("nothing is changed", x.comerOf(0, 2), 0);
    }

    @Promise(value = 21, says = "NERVE being n more (30 at most)")
    private static void practisedToTheMostNerve() {
        // one look, LOAD 9 and DOUBT 12: two FOGS with a NERVE of 29, one with 30
        TollForHesitators x = one(0, 0, 29, 8, 9);
        x.tell(0, 2, 12);
        practised(x, 1, 1, 1 + 5);
        practised(x, 4, 1, 4 + 5);
        practised(x, 5, 0, 10);
        x.tell(0, 0, 30);
        practised(x, 1, 0, 5);
    }

    @Promise(value = 21, says = {"are least, of several the least: n; the sum.", "PRACTISE: n (what 0), the sum (1)."})
    private static void practisedTheFewestTimesOfSeveral() {
        // one look: from 5 on each time is one FOG fewer, at the same cost
        TollForHesitators x = one(0, 0, 5, 8, 0);
        practised(x, 5, 0, 25);
        practised(x, 4, 5, 20);
        // one FOG alone, and once is enough
        x = one(0, 0, 9, 8, 0);
        practised(x, 5, 0, 5);
        practised(x, 4, 1, 4);
    }

    @Promise(value = 21, says = {"TOLL for each FOG of 0 to 9 in which he SLOWS", "ALONE, as if he could always pay, are least"})
    private static void practisedAsIfHeCouldPay() {
        for (int purse = 0; purse <= 999; purse += 999) {
            TollForHesitators x = one(0, 0, 9, 8, 0);
            x.tell(0, 1, purse);
            x.ask(2, 99);
            // FOG 9 alone
            practised(x, 98, 1, 98);
            practised(x, 99, 0, 99);
            x.tell(0, 0, 0);
            x.tell(0, 2, 30);
            // all ten
            practised(x, 1, 0, 990);
        }
    }

    @Promise(value = 21, says = {"-1;", "-5 another what;", "-6 c."})
    private static void practiseOfNobodyAndOfAnother() {
        TollForHesitators x = fresh();
        DUE.is("no COMERS yet", x.practise(0, 1, 0), -1);
        x.comer(0, 0, 10, 8, 0, 0);
        DUE.is("practise(1, 1, 0)", x.practise(1, 1, 0), -1);
        DUE.is("practise(-1, 1, 0)", x.practise(-1, 1, 0), -1);
        DUE.is("practise(0, 1, -1)", x.practise(0, 1, -1), -5);
        DUE.is("practise(0, 1, 2)", x.practise(0, 1, 2), -5);
        DUE.is("practise(0, 1, MIN)", x.practise(0, 1, MIN), -5);
        DUE.is("practise(0, 1, MAX)", x.practise(0, 1, MAX), -5);
        DUE.is("-1 before -5 and -6", x.practise(1, 0, 2), -1);
        DUE.is("-1 before -6", x.practise(1, 0, 0), -1);
        DUE.is("-5 before -6", x.practise(0, 0, 2), -5);
        DUE.is("refused -1", x.status(11), 5);
        DUE.is("refused -5", x.status(15), 5);
        DUE.is("refused -6", x.status(16), 0);
    }

    // ---- 22: fits

    /** The NERVES from lo to hi as bits. */
    private static int nerves(int lo, int hi) {
        int bits = 0;
        for (int n = lo; n <= hi; n++) {
            bits |= 1 << n;
        }
        return bits;
    }

    @Promise(value = 22, says = {"NERVES (bits 0 to 30) that FIT one",
        "NERVES that FIT one by the first n twos (0 to 40) of the ROW in SHELF s."})
    private static void fitsFromNoneToAll() {
        // one look: slows in a FOG with a NERVE of it at most
        TollForHesitators x = one(0, 0, 17, 8, 0);
        Due.fill(x, 0, 2, 0, 1, 0, 0);
        DUE.is("all", x.fits(0, 0, 0), MAX);
        DUE.is("0 alone", x.fits(0, 1, 0), 1);
        DUE.is("none", x.fits(0, 2, 0), 0);
        // with LOAD 9 and DOUBT 11: with a NERVE of FOG and 20 at most
        x = one(0, 0, 17, 8, 9);
        x.tell(0, 2, 11);
        Due.fill(x, 0, 2, 9, 0, 9, 1);
        DUE.is("30 alone", x.fits(0, 1, 0), 1 << 30);
        DUE.is("none", x.fits(0, 2, 0), 0);
        x.set(0, 0, 0);
        x.set(0, 1, 1);
        DUE.is("0 to 20", x.fits(0, 1, 0), nerves(0, 20));
        DUE.is("0 to 20 again", x.fits(0, 2, 0), nerves(0, 20));
        x.tell(0, 2, 12);
        x.set(0, 0, 9);
        DUE.is("0 to 30", x.fits(0, 1, 0), MAX);
    }

    @Promise(value = 22, says = {"by the first n twos (0 to 40)", "-6 n above 40"})
    private static void fitsByNoTwoAndByForty() {
        TollForHesitators x = one(0, 0, 17, 8, 0);
        x.row(0, 0, 0);
        DUE.is("none of a ROW of no elements", x.fits(0, 0, 0), MAX);
        DUE.is("one of it", x.fits(0, 1, 0), -5);
        x.row(1, 0, 160);
        // 0 to 30 don't SLOW in FOG 0 but 0; the fortieth says that he SLOWED in FOG 9
        x.set(1, 78, 9);
        x.set(1, 79, 1);
        x.set(1, 80, 8);
        x.set(1, 81, 1);
        DUE.is("thirty-nine", x.fits(1, 39, 0), nerves(1, 30));
        DUE.is("forty", x.fits(1, 40, 0), nerves(1, 9));
        DUE.is("forty-one", x.fits(1, 41, 0), -6);
        DUE.is("eighty", x.fits(1, 80, 0), -6);
        DUE.is("eighty-one", x.fits(1, 81, 0), -5);
        x.row(2, 0, 80);
        DUE.is("forty of forty", x.fits(2, 40, 0), nerves(1, 30));
        DUE.is("forty-one of forty", x.fits(2, 41, 0), -5);
        DUE.is("refused -5", x.status(15), 3);
        DUE.is("refused -6", x.status(16), 2);
    }

    @Promise(value = 22, says = "-4 n;")
    private static void fitsByLessThanNone() {
        TollForHesitators x = one(0, 0, 17, 8, 0);
        x.row(0, 0, 4);
        DUE.is("n is -1", x.fits(0, -1, 0), -4);
        DUE.is("n is MIN", x.fits(0, MIN, 0), -4);
        DUE.is("refused -4", x.status(14), 2);
    }

    @Promise(value = 22, says = "-5 fewer elements;")
    private static void fitsByMoreThanThereIs() {
        TollForHesitators x = one(0, 0, 17, 8, 0);
        for (int elements = 0; elements <= 7; elements++) {
            x.row(0, 0, elements);
            DUE.is("as many as there are in " + elements, x.fits(0, elements / 2, 0), elements < 2 ? MAX : nerves(1, 30));
            DUE.is("one more", x.fits(0, elements / 2 + 1, 0), -5);
        }
        DUE.is("n is MAX", x.fits(0, MAX, 0), -5);
        DUE.is("twice n wraps to 0", x.fits(0, 1 << 30, 0), -5);
        DUE.is("twice n wraps below 0", x.fits(0, (1 << 30) + 1, 0), -5);
        DUE.is("twice n wraps to 2", x.fits(0, MIN + 1, 0), -4);
        DUE.is("refused -5", x.status(15), 11);
    }

    @Promise(value = 22, says = {"no FOG, neither 0 nor 1.", "ROW of twos (a FOG, whether he SLOWED: 1, 0)"})
    private static void fitsByWhatNoTwoIs() {
        TollForHesitators x = one(0, 0, 17, 8, 0);
        long[][] twos = {{0, 0}, {9, 0}, {0, 1}, {9, 1}, {-1, 0}, {10, 0}, {0, -1}, {0, 2}, {MIN, 0}, {MAX, 0}, {0, MIN}, {0, MAX}};
        int[] due = {nerves(1, 30), nerves(10, 30), 1, nerves(0, 9), -6, -6, -6, -6, -6, -6, -6, -6};
        for (int i = 0; i < twos.length; i++) {
            Due.fill(x, 0, 2, 9, 0, twos[i][0], twos[i][1]);
            DUE.is("ahead of it", x.fits(0, 1, 0), nerves(10, 30));
            int both = due[i] < 0 ? -6 : due[i] & nerves(10, 30);
            DUE.is("the two " + twos[i][0] + ", " + twos[i][1], x.fits(0, 2, 0), both);
        }
        DUE.is("refused -6", x.status(16), 8);
        // two that can't FIT stand ahead of the wrong one
        Due.fill(x, 0, 2, 0, 0, 0, 1, 10, 0);
        DUE.is("none FITS", x.fits(0, 2, 0), 0);
        DUE.is("wrong all the same", x.fits(0, 3, 0), -6);
    }

    @Promise(value = 22, says = "ALONE, all else as it is.")
    private static void fitsByAllElseAsItIs() {
        TollForHesitators x = one(0, 0, 0, 8, 0);
        x.comer(0, 0, 30, 1, 0, 999);
        Due.fill(x, 0, 2, 5, 1);
        DUE.is("one look", x.fits(0, 1, 0), nerves(0, 5));
        DUE.is("eight looks", x.fits(0, 1, 1), nerves(0, 12));
        x.tell(0, 0, 30);
        DUE.is("his NERVE doesn't count", x.fits(0, 1, 0), nerves(0, 5));
        DUE.is("it is as it was", x.comerOf(0, 2), 30);
        x.ask(1, 9);
        DUE.is("nor the FOG that is", x.fits(0, 1, 0), nerves(0, 5));
        x.tell(0, 2, 3);
        DUE.is("his DOUBT does", x.fits(0, 1, 0), nerves(0, 8));
        x.ask(0, 20);
        DUE.is("and the WAY", x.fits(0, 1, 0), nerves(0, 10));
    }

    @Promise(value = {22, 23}, says = "(As ints: of longs the lowest 32 bits.)")
    private static void twosOfLongsAsInts() {
        TollForHesitators x = one(0, 0, 0, 8, 0);
        Due.fill(x, 0, 3, (1L << 32) + 3, (-1L << 32) + 1);
        DUE.is("fits", x.fits(0, 1, 0), nerves(0, 3));
        DUE.is("next", x.next(0, 1, 0), 1);
    }

    @Promise(value = {22, 23}, says = {"-1; -2; -3; -4 n; -5 fewer elements; -6 n above 40",
        "-11; -12; -13; -14; -15; -16 (counted as -1 to -6)."})
    private static void twosOfNobodyOnNoRow() {
        TollForHesitators x = fresh();
        x.row(0, 2, 2);
        DUE.is("no COMERS yet: fits", x.fits(0, 0, 0), -1);
        DUE.is("no COMERS yet: next", x.next(0, 0, 0), -11);
        x.comer(0, 0, 0, 8, 0, 0);
        x.show(1, 0);
        int[][] calls = {
            {-1, 0, 0, 1}, {8, 0, 0, 1}, {0, 0, -1, 1}, {0, 0, 1, 1}, {0, 0, MIN, 1}, {0, 0, MAX, 1}, {1, 0, 0, 2}, {2, 0, 0, 3}
        };
        int[] counts = {0, 2, 0, 0};
        for (int[] c : calls) {
            String call = "(" + c[0] + ", " + c[1] + ", " + c[2] + ")";
            DUE.is("fits" + call, x.fits(c[0], c[1], c[2]), -c[3]);
            DUE.is("next" + call, x.next(c[0], c[1], c[2]), -10 - c[3]);
            counts[c[3]] += 2;
        }
        for (int r = 1; r <= 3; r++) {
            DUE.is("refused -" + r, x.status(10 + r), counts[r]);
        }
    }

    // ---- 23: next

    @Promise(value = 23, says = {"NONE: fewer than two FIT.", "ASK; NONE."})
    private static void nextOfNoneOfOneAndOfTwo() {
        TollForHesitators x = one(0, 0, 0, 8, 0);
        Due.fill(x, 0, 2, 1, 1, 0, 0, 0, 1);
        DUE.is("0 and 1", x.next(0, 1, 0), 0);
        DUE.is("1 alone", x.next(0, 2, 0), -1);
        DUE.is("none", x.next(0, 3, 0), -1);
        // 29 and 30, which no FOG parts
        x = one(1, 0, 0, 8, 0);
        x.tell(0, 2, 29);
        Due.fill(x, 0, 2, 5, 0);
        DUE.is("29 and 30", x.next(0, 1, 0), 0);
        x.tell(0, 2, 30);
        DUE.is("30 alone", x.next(0, 1, 0), -1);
        noneRefused(x);
    }

    @Promise(value = 23, says = {"ASK: the FOG that of those NERVES that FIT, by whether he SLOWS, leaves fewest in the worst case",
        "of several the least; NONE: fewer than two FIT."})
    private static void nextTheLeastOfSeveral() {
        TollForHesitators x = one(0, 0, 0, 8, 0);
        // of 0 to 2: FOG 0 leaves 1 or 2, FOG 1 leaves 2 or 1
        Due.fill(x, 0, 2, 2, 1);
        DUE.is("of 0 to 2", x.next(0, 1, 0), 0);
        x.set(0, 0, 3);
        DUE.is("of 0 to 3", x.next(0, 1, 0), 1);
        x.set(0, 0, 4);
        DUE.is("of 0 to 4", x.next(0, 1, 0), 1);
        // of 0 to 30 the last FOG parts best: 10 or 21
        DUE.is("of all", x.next(0, 0, 0), 9);
        // with LOAD 9: FOG and 9 at most; 15 or 16 first in FOG 5, 16 or 15 in FOG 6
        x = one(0, 0, 0, 8, 9);
        x.row(0, 2, 0);
        DUE.is("of all, with LOAD 9", x.next(0, 0, 0), 5);
        // not from 0 on
        x = one(0, 0, 0, 8, 0);
        Due.fill(x, 0, 2, 8, 1, 2, 0);
        DUE.is("of 3 to 8: three or three", x.next(0, 2, 0), 5);
        Due.fill(x, 0, 2, 9, 1, 4, 0);
        DUE.is("of 5 to 9: two or three", x.next(0, 2, 0), 6);
        x.tell(0, 2, 9);
        DUE.is("with DOUBT 9, of 14 to 18: two or three", x.next(0, 2, 0), 6);
        // with LOAD 9 and DOUBT 9: already FOG 0 leaves most to those who SLOW
        x = one(0, 0, 0, 8, 9);
        x.row(0, 2, 0);
        x.tell(0, 2, 9);
        DUE.is("of all, with DOUBT 9 too", x.next(0, 0, 0), 0);
    }

    // ---- 24: leader

    @Promise(value = 24, says = {"NONE: nobody else.", "LEADER; NONE."})
    private static void leaderOfTheOnlyOne() {
        TollForHesitators x = one(0, 0, 0, 8, 0);
        DUE.is("nobody else", x.leader(0), -1);
        x.comer(0, 0, 0, 8, 9, 0);
        DUE.is("one else", x.leader(0), 1);
        DUE.is("and for him", x.leader(1), 0);
        noneRefused(x);
    }

    @Promise(value = 24, says = "-11 (counted as -1).")
    private static void leaderOfNobody() {
        TollForHesitators x = fresh();
        DUE.is("no COMERS yet", x.leader(0), -11);
        x.comer(0, 0, 0, 8, 0, 0);
        DUE.is("leader(1)", x.leader(1), -11);
        DUE.is("leader(-1)", x.leader(-1), -11);
        DUE.is("leader(MIN)", x.leader(MIN), -11);
        DUE.is("leader(MAX)", x.leader(MAX), -11);
        DUE.is("counted as -1", x.status(11), 5);
    }

    @Promise(value = 24, says = "of several the first; NONE: nobody else.")
    private static void leaderTheFirstOfSeveral() {
        TollForHesitators x = fresh();
        for (int c = 0; c <= 6; c++) {
            x.comer(1, 0, 30, 8, 0, 0);
        }
        for (int c = 0; c <= 6; c++) {
            DUE.is("leader(" + c + ")", x.leader(c), c == 0 ? 1 : 0);
        }
        // one LED, better behind the last than behind the first, and just so behind the one ahead of the last
        x = fresh();
        x.comer(2, 0, 0, 1, 0, 0);
        for (int c = 1; c <= 6; c++) {
            x.comer(1, 0, c == 6 ? 5 : 4, 8, 0, 0);
        }
        DUE.is("the last", x.leader(0), 6);
        x.tell(5, 0, 5);
        DUE.is("the one ahead of the last", x.leader(0), 5);
    }

    @Promise(value = 24, says = "he SLOWS last (not at all is last of all)")
    private static void leaderNotAtAllIsLast() {
        // LED, of twenty looks: at the twentieth behind a NERVE of 19, not at all behind 20
        for (int better = 1; better <= 2; better++) {
            TollForHesitators x = one(2, 0, 0, 1, 0);
            x.ask(0, 20);
            x.comer(1, 0, better == 1 ? 20 : 19, 1, 0, 0);
            x.comer(1, 0, better == 2 ? 20 : 19, 1, 0, 0);
            DUE.is("leader(0)", x.leader(0), better);
            x.tell(better, 0, 18);
            DUE.is("one look earlier", x.leader(0), 3 - better);
        }
    }

    @Promise(24)
    private static void leaderIsSeen() {
        // bears his only look and nothing more; FOG is BURDEN to none: all others are BLIND
        TollForHesitators x = one(0, 0, 1, 8, 0);
        x.comer(1, 0, 0, 8, 1, 5);
        x.comer(1, 0, 0, 8, 1, 4);
        DUE.is("one who turns BACK isn't seen, one who pays is", x.leader(0), 2);
        x.tell(1, 1, 4);
        DUE.is("both turn BACK", x.leader(0), 1);
        x.ask(2, 4);
        DUE.is("both pay", x.leader(0), 1);
        x.tell(2, 0, 2);
        DUE.is("the second goes freely", x.leader(0), 2);
        x.ask(1, 1);
        DUE.is("in FOG he SLOWS whoever leads", x.leader(0), 1);
    }

    @Promise(24)
    private static void leaderIsSeenOnce() {
        // bears his only look and one SEEN: behind one who pays he goes on as well
        TollForHesitators x = one(0, 0, 2, 8, 0);
        x.comer(1, 0, 0, 8, 9, 5);
        x.comer(1, 0, 30, 8, 0, 0);
        DUE.is("one SEEN is borne", x.leader(0), 1);
        x.tell(0, 0, 1);
        DUE.is("one SEEN is not", x.leader(0), 2);
        // LEADERS see nobody: short by just one, he pays
        x = one(0, 0, 1, 8, 0);
        x.comer(0, 0, 0, 8, 0, 5);
        x.comer(1, 0, 0, 8, 0, 0);
        DUE.is("1 pays, 2 goes freely", x.leader(0), 2);
        x.tell(1, 0, 1);
        DUE.is("both go freely", x.leader(0), 1);
    }

    @Promise(value = 24, says = {"just those two coming (the LEADER first, as he'd be ALONE, but for who is behind him)",
        "The LEADER has the one who asks just behind him, and his paying or going freely is seen."})
    private static void leaderHasTheOneWhoAsksBehindHim() {
        // asks: bears his only look and nothing more; 1 always pays; 2, THROWN, needs 2 from behind
        TollForHesitators x = one(0, 0, 4, 8, 3);
        x.comer(1, 0, 0, 8, 1, 5);
        x.comer(3, 0, 0, 8, 1, 5);
        DUE.is("half of 4", x.leader(0), 2);
        x = one(0, 0, 3, 8, 2);
        x.comer(1, 0, 0, 8, 1, 5);
        x.comer(3, 0, 0, 8, 1, 5);
        DUE.is("half of 3, cut: both pay", x.leader(0), 1);
        // LED: nobody is ahead of the LEADER, whatever his number
        x = fresh();
        x.comer(0, 0, 30, 8, 0, 5);
        x.comer(0, 0, 1, 8, 0, 5);
        x.comer(2, 0, 0, 8, 0, 5);
        x.tell(0, 2, 30);
        DUE.is("0 and 2 pay", x.leader(1), 0);
        x.tell(0, 1, 4);
        x.tell(2, 1, 4);
        x.comer(0, 0, 0, 8, 0, 5);
        DUE.is("0 and 2 turn BACK, 3 pays", x.leader(1), 0);
    }

    @Promise(value = 24, says = "LEADER of one: behind whom, just those two coming")
    private static void leaderOfOneThrown() {
        // nobody is behind the one who asks: THROWN by the greater NERVE alone
        TollForHesitators x = one(3, 0, 2, 1, 0);
        x.comer(1, 0, 2, 8, 0, 0);
        x.comer(1, 0, 3, 8, 0, 0);
        x.comer(1, 0, 30, 8, 0, 0);
        DUE.is("behind the greatest", x.leader(0), 3);
        x.tell(3, 0, 0);
        DUE.is("behind the greater", x.leader(0), 2);
        x.tell(2, 0, 2);
        DUE.is("nobody's is greater", x.leader(0), 1);
    }

    // ---- 25: rest

    @Promise(value = 25, says = {"REST. -6 c.",
        "each loses c (2 to 999), one gives way: he loses TOLL and the other nothing; both do: each loses TOLL."})
    private static void restOfTheLeastAndTheMost() {
        TollForHesitators x = fresh();
        DUE.is("rest(2)", x.rest(2), 1000);
        DUE.is("rest(999)", x.rest(999), 5);
        DUE.is("rest(1)", x.rest(1), -6);
        DUE.is("rest(0)", x.rest(0), -6);
        DUE.is("rest(1000)", x.rest(1000), -6);
        DUE.is("rest(MIN)", x.rest(MIN), -6);
        DUE.is("rest(MAX)", x.rest(MAX), -6);
        DUE.is("refused -6", x.status(16), 5);
    }

    @Promise(value = 25, says = {"(cut; 1000, if c is TOLL at most).", "REST: of 1000 how often each should go on so that it is the same to the other what he does",
        "MEET: two in it, each goes on or gives way: both go on:"})
    private static void restAboutTheToll() {
        TollForHesitators x = fresh();
        int[] tolls = {1, 2, 5, 50, 99};
        // at TOLL less 1, at TOLL, at TOLL and 1 (0: no such c)
        int[][] due = {{0, 0, 500}, {0, 1000, 666}, {1000, 1000, 833}, {1000, 1000, 980}, {1000, 1000, 990}};
        for (int i = 0; i < tolls.length; i++) {
            x.ask(2, tolls[i]);
            for (int more = -1; more <= 1; more++) {
                if (due[i][1 + more] > 0) {
                    DUE.is("TOLL " + tolls[i] + ", c " + (tolls[i] + more), x.rest(tolls[i] + more), due[i][1 + more]);
                }
            }
        }
        x.ask(2, 1);
        DUE.is("1 by 999", x.rest(999), 1);
        x.ask(2, 99);
        DUE.is("99 by 999", x.rest(999), 99);
    }

    // ---- 26: painted

    @Promise(value = 26, says = {"PAINTED. -6 p, q not 0 to 1000, k.", "PAINTED: that it is, is believed by p of 1000;",
        "k (0 to 20) went on and came to a stop unharmed, which happens always at a painted one, else by q of 1000 each:"})
    private static void paintedAtTheLeastAndTheMost() {
        TollForHesitators x = fresh();
        int[][] due = {
            {0, 5, 500, 0}, {1000, 5, 500, 1000}, {500, 0, 500, 500}, {500, 20, 1000, 500}, {500, 5, 0, 1000}, {500, 20, 500, 1000}
        };
        for (int[] d : due) {
            DUE.is("painted(" + d[0] + ", " + d[1] + ", " + d[2] + ")", x.painted(d[0], d[1], d[2]), d[3]);
        }
        DUE.is("nothing refused", x.status(16), 0);
        int[] beside = {-1, 1001, MIN, MAX};
        for (int b : beside) {
            DUE.is("p is " + b, x.painted(b, 5, 500), -6);
            DUE.is("q is " + b, x.painted(500, 5, b), -6);
        }
        int[] looks = {-1, 21, MIN, MAX};
        for (int k : looks) {
            DUE.is("k is " + k, x.painted(500, k, 500), -6);
        }
        DUE.is("refused -6", x.status(16), 12);
    }

    @Promise(value = 26, says = "0 if both are 0.")
    private static void paintedWhenBothAreNothing() {
        TollForHesitators x = fresh();
        DUE.is("p is 0, q is 0, once", x.painted(0, 1, 0), 0);
        DUE.is("p is 0, q is 0, twenty times", x.painted(0, 20, 0), 0);
        DUE.is("p is 0, cut to nothing", x.painted(0, 3, 1), 0);
        DUE.is("p is 0, q is 0, not once", x.painted(0, 0, 0), 0);
        DUE.is("B alone is 0", x.painted(1, 1, 0), 1000);
        DUE.is("B is cut to 0", x.painted(1, 2, 1), 1000);
    }

    @Promise(value = 26, says = {"then k times it becomes it times q, by 1000, cut each time;", "of 1000, how it is believed now: 1000 times A by (A and B), cut: A is p times 1000;"})
    private static void paintedIsCutEachTime() {
        TollForHesitators x = fresh();
        // B: 999000, 44955, 2022 (and 975), 90 (and 990; 91 if it were cut but once)
        DUE.is("painted(1, 3, 45)", x.painted(1, 3, 45), 917);
        // B: 999000, 999
        DUE.is("painted(1, 1, 1)", x.painted(1, 1, 1), 500);
        // two thirds, and one third
        DUE.is("painted(500, 1, 500)", x.painted(500, 1, 500), 666);
        DUE.is("painted(333, 0, 0)", x.painted(333, 0, 0), 333);
        // A: 23000 and B: 977000, 488500: 44.97 of 1000; A: 18000 and B: 982000, 98200: 154.9
        DUE.is("painted(23, 1, 500)", x.painted(23, 1, 500), 44);
        DUE.is("painted(18, 1, 100)", x.painted(18, 1, 100), 154);
    }
}
