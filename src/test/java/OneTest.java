/** Promises 15 to 17 and 21 to 26: one who comes, alone or behind a LEADER, and two who meet. */
public final class OneTest {
    private static final Due DUE = new Due("OneTest");

    public static void main(String[] args) {
        Suite.run(OneTest.class, DUE);
    }

    @Promise(15)
    private static void looks() {
        TollForHesitators x = new TollForHesitators();
        int[] step = {1, 0, 1, 1, 2, 9, 7};
        for (int kind = 0; kind <= 6; kind++) {
            x.comer(kind, 7, 11 + kind, 3, 4, 0);
        }
        x.ask(1, 5);
        for (int c = 0; c <= 6; c++) {
            DUE.is("LOOKS of " + c, x.looks(c, 0), c == 6 ? 1 : 3);
            DUE.is("STEP of " + c, x.looks(c, 1), step[c]);
            DUE.is("BURDEN of " + c, x.looks(c, 2), c == 1 || c == 6 ? 8 : 9);
            DUE.is("COURAGE of " + c, x.looks(c, 3), 11 + c);
        }
        for (int c = 0; c <= 6; c++) {
            x.tell(c, 0, 0);
            DUE.is("no COURAGE of " + c, x.looks(c, 3), 0);
        }
        DUE.is("looks -1", x.looks(7, 4), -1);
        DUE.is("looks -1", x.looks(-1, 0), -1);
        DUE.is("looks -5", x.looks(0, 4), -5);
        DUE.is("looks -5", x.looks(0, -1), -5);
        DUE.is("refused -1", x.status(11), 2);
        DUE.is("refused -5", x.status(15), 2);

        int[] ofEight = {8, 4, 3, 2, 2, 2, 2, 1, 1};
        int[] ofTwenty = {20, 10, 7, 5, 4, 4, 3, 3, 3};
        for (int pace = 1; pace <= 9; pace++) {
            x = new TollForHesitators();
            x.comer(0, 0, 0, pace, 0, 0);
            DUE.is("LOOKS on 8 by " + pace, x.looks(0, 0), ofEight[pace - 1]);
            x.ask(0, 20);
            DUE.is("LOOKS on 20 by " + pace, x.looks(0, 0), ofTwenty[pace - 1]);
            x.ask(0, 1);
            DUE.is("LOOKS on 1 by " + pace, x.looks(0, 0), 1);
        }
        x = new TollForHesitators();
        x.comer(6, 0, 0, 1, 9, 0);
        x.comer(5, 0, 0, 1, 9, 0);
        x.comer(5, 9, 0, 1, 9, 0);
        x.ask(0, 20);
        DUE.is("LOOKS of a RUNNER", x.looks(0, 0), 1);
        DUE.is("STEP of a RUNNER whose a is 0", x.looks(0, 1), 0);
        DUE.is("STEP of a STANDER whose a is 0", x.looks(1, 1), 2);
        DUE.is("STEP of a STANDER whose a is 9", x.looks(2, 1), 11);
        DUE.is("BURDEN, 9 at LOAD", x.looks(0, 2), 18);
    }

    @Promise(16)
    private static void slow() {
        TollForHesitators x = new TollForHesitators();
        // four looks; FOG and 2 and k above 10
        x.comer(0, 5, 10, 2, 2, 0);
        int[] due = {-1, -1, -1, -1, -1, 4, 3, 2, 1, 1};
        for (int fog = 0; fog <= 9; fog++) {
            DUE.is("slow(0, " + fog + ")", x.slow(0, fog), due[fog]);
        }
        DUE.is("FOGS", x.brave(0), 5);
        x.tell(0, 2, 3);
        int[] doubting = {-1, -1, 4, 3, 2, 1, 1, 1, 1, 1};
        for (int fog = 0; fog <= 9; fog++) {
            DUE.is("doubting: slow(0, " + fog + ")", x.slow(0, fog), doubting[fog]);
        }
        x.tell(0, 2, 30);
        DUE.is("DOUBT of 30", x.slow(0, 0), 1);
        x.tell(0, 2, 0);
        x.ask(1, 9);
        DUE.is("the FOG that is doesn't matter", x.slow(0, 0), -1);
        x.ask(0, 20);
        DUE.is("a longer WAY", x.slow(0, 0), 9);
        x.ask(0, 16);
        DUE.is("not so long", x.slow(0, 0), -1);
        x.ask(2, 99);
        DUE.is("also if he can't pay", x.slow(0, 9), 1);
        x.comer(0, 0, 30, 9, 9, 0);
        DUE.is("the other's NERVE doesn't matter", x.slow(0, 9), 1);
        DUE.is("slow -11", x.slow(2, 10), -11);
        DUE.is("slow -11", x.slow(-1, 0), -11);
        DUE.is("slow -16", x.slow(0, 10), -16);
        DUE.is("slow -16", x.slow(0, -1), -16);
        DUE.is("counted as -1", x.status(11), 2);
        DUE.is("counted as -6", x.status(16), 2);
    }

    @Promise(16)
    private static void slowByKinds() {
        TollForHesitators x = new TollForHesitators();
        x.comer(1, 9, 6, 1, 3, 0);
        DUE.is("a BLIND one, as much as he can bear", x.slow(0, 9), -1);
        x.tell(0, 0, 5);
        DUE.is("a BLIND one, a little more", x.slow(0, 0), 1);
        x.comer(6, 4, 10, 1, 3, 0);
        DUE.is("a RUNNER who bears his only look", x.slow(1, 9), -1);
        x.tell(1, 0, 9);
        DUE.is("a RUNNER who doesn't", x.slow(1, 0), 1);
        x.comer(4, 9, 10, 2, 1, 0);
        DUE.is("a DOUBTER of four looks", x.slow(2, 0), -1);
        DUE.is("in FOG", x.slow(2, 2), 4);
        x.comer(5, 1, 10, 2, 1, 0);
        DUE.is("a STANDER of four looks", x.slow(3, 0), 4);
        DUE.is("in FOG", x.slow(3, 3), 3);
        x.comer(2, 0, 3, 2, 0, 0);
        DUE.is("one LED, nobody ahead", x.slow(4, 0), 4);
        x.tell(4, 0, 0);
        DUE.is("one LED, nobody ahead and no NERVE", x.slow(4, 0), 1);
        x.comer(3, 0, 4, 2, 0, 0);
        DUE.is("one THROWN, nobody about", x.slow(5, 0), -1);
        DUE.is("in FOG", x.slow(5, 1), 4);
    }

    @Promise(17)
    private static void brave() {
        TollForHesitators x = new TollForHesitators();
        DUE.is("nobody", x.brave(-1), 0);
        x.comer(0, 0, 13, 4, 2, 0);
        x.comer(0, 0, 12, 4, 2, 0);
        x.comer(1, 0, 0, 1, 0, 0);
        x.comer(6, 1, 0, 1, 0, 0);
        DUE.is("BRAVE", x.brave(-1), 5);
        DUE.is("FOGS", x.brave(0), 0);
        DUE.is("FOGS", x.brave(1), 1);
        DUE.is("FOGS", x.brave(2), 0);
        DUE.is("FOGS", x.brave(3), 10);
        x.tell(2, 2, 1);
        x.ask(0, 4);
        DUE.is("BRAVE", x.brave(-1), 3);
        x.ask(1, 9);
        DUE.is("the FOG that is doesn't matter", x.brave(-1), 3);
        for (int c = 4; c < 7; c++) {
            x.comer(1, 0, 30, 1, 0, 0);
        }
        DUE.is("BRAVE of seven", x.brave(-1), 64 + 32 + 16 + 3);
        DUE.is("brave -1", x.brave(7), -1);
        DUE.is("brave -1", x.brave(-2), -1);
        DUE.is("refused -1", x.status(11), 2);
    }

    private static void practised(TollForHesitators x, int c, int times, int sum) {
        DUE.is("PRACTISE at " + c, x.practise(0, c, 0), times);
        DUE.is("the sum at " + c, x.practise(0, c, 1), sum);
    }

    @Promise(21)
    private static void practise() {
        TollForHesitators x = new TollForHesitators();
        // slows in five FOGS, one fewer for each time
        x.comer(0, 5, 10, 2, 2, 0);
        practised(x, 1, 5, 5);
        practised(x, 4, 5, 20);
        practised(x, 5, 0, 25);
        practised(x, 99, 0, 25);
        x.ask(2, 99);
        practised(x, 98, 5, 490);
        practised(x, 99, 0, 495);
        DUE.is("nothing is changed", x.comerOf(0, 2), 10);
        x.tell(0, 0, 0);
        practised(x, 1, 15, 15);
        x.tell(0, 2, 30);
        practised(x, 1, 0, 990);

        x = new TollForHesitators();
        // 31 and FOG: with a NERVE of 30 at most he slows in every FOG
        x.comer(5, 9, 29, 4, 9, 0);
        practised(x, 1, 0, 50);
        x = new TollForHesitators();
        // 29 and FOG: from NERVE 29 on one FOG fewer, from 30 on two, and no more
        x.comer(5, 8, 28, 4, 9, 0);
        practised(x, 1, 2, 2 + 5 * 8);
        practised(x, 5, 0, 50);
        x = new TollForHesitators();
        x.comer(2, 0, 0, 1, 9, 0);
        x.ask(0, 13);
        // 22 and FOG: twenty times are the most
        practised(x, 1, 0, 50);
        x.ask(0, 10);
        // 19 and FOG: twenty times are two FOGS fewer, and not worth it
        practised(x, 1, 0, 50);
        x.ask(2, 11);
        practised(x, 1, 20, 20 + 11 * 8);
        x.ask(0, 11);
        x.ask(2, 99);
        // 20 and FOG: just the twentieth helps
        practised(x, 4, 20, 80 + 9 * 99);
        practised(x, 5, 0, 990);
        DUE.is("practise -1", x.practise(1, 0, 2), -1);
        DUE.is("practise -1", x.practise(-1, 1, 0), -1);
        DUE.is("practise -5", x.practise(0, 0, 2), -5);
        DUE.is("practise -5", x.practise(0, 1, -1), -5);
        DUE.is("practise -6", x.practise(0, 0, 0), -6);
        DUE.is("practise -6", x.practise(0, 100, 1), -6);
        DUE.is("refused -1", x.status(11), 2);
        DUE.is("refused -5", x.status(15), 2);
        DUE.is("refused -6", x.status(16), 2);
    }

    /** The NERVES from lo to hi as bits. */
    private static int nerves(int lo, int hi) {
        int bits = 0;
        for (int n = lo; n <= hi; n++) {
            bits |= 1 << n;
        }
        return bits;
    }

    @Promise(22)
    private static void fits() {
        TollForHesitators x = new TollForHesitators();
        // slows with a NERVE below FOG and 6
        x.comer(0, 0, 30, 2, 2, 0);
        Due.fill(x, 0, 0, 3, 1, 3, 0, 0, 0, 9, 1, 0, 1);
        DUE.is("none told", x.fits(0, 0, 0), nerves(0, 30));
        DUE.is("slowed in 3", x.fits(0, 1, 0), nerves(0, 8));
        DUE.is("slowed in 3 and didn't", x.fits(0, 2, 0), 0);
        Due.fill(x, 0, 0, 9, 1, 0, 0, 5, 1);
        DUE.is("slowed in 9, not in 0", x.fits(0, 2, 0), nerves(6, 14));
        DUE.is("and in 5", x.fits(0, 3, 0), nerves(6, 10));
        DUE.is("his NERVE doesn't matter", x.tell(0, 0, 0), 30);
        DUE.is("and in 5", x.fits(0, 3, 0), nerves(6, 10));
        x.tell(0, 2, 4);
        DUE.is("his DOUBT does", x.fits(0, 3, 0), nerves(10, 14));
        x.ask(0, 20);
        DUE.is("and the WAY", x.fits(0, 3, 0), nerves(16, 20));
        x.ask(1, 7);
        DUE.is("not the FOG that is", x.fits(0, 3, 0), nerves(16, 20));
        Due.fill(x, 1, 2, 9, 0);
        DUE.is("not in 9", x.fits(1, 1, 0), nerves(25, 30));
        x.tell(0, 2, 10);
        DUE.is("the last NERVE's bit", x.fits(1, 1, 0), 0);
        x.tell(0, 2, 9);
        DUE.is("the last NERVE's bit", x.fits(1, 1, 0), 1 << 30);
        x.row(2, 1, 80);
        DUE.is("forty twos", x.fits(2, 40, 0), nerves(21, 30));
        x.set(2, 79, 1);
        DUE.is("the fortieth counts", x.fits(2, 40, 0), 0);
        DUE.is("thirty-nine", x.fits(2, 39, 0), nerves(21, 30));
        Due.fill(x, 3, 3, 1L << 32, (5L << 32) + 1);
        DUE.is("longs as ints", x.fits(3, 1, 0), nerves(0, 20));
        x.comer(1, 0, 0, 1, 5, 0);
        DUE.is("another one", x.fits(3, 1, 1), nerves(0, 9));
    }

    @Promise({22, 23})
    private static void fitsRefusals() {
        TollForHesitators x = new TollForHesitators();
        x.comer(0, 0, 0, 2, 2, 0);
        x.show(1, 0);
        x.row(0, 2, 160);
        x.row(3, 2, 4);
        int far = Integer.MAX_VALUE;
        int[][] calls = {
            {-1, 0, 0, 1}, {8, 0, 0, 1}, {0, 0, 1, 1}, {1, -1, 1, 1}, {2, -1, -1, 1}, {1, -1, 0, 2}, {2, -1, 0, 3},
            {0, -1, 0, 4}, {3, 3, 0, 5}, {3, 41, 0, 5}, {0, 81, 0, 5}, {0, far, 0, 5}, {0, 1 << 30, 0, 5},
            {0, 41, 0, 6}, {0, 80, 0, 6}
        };
        int[] counts = new int[8];
        for (int[] c : calls) {
            String call = "(" + c[0] + ", " + c[1] + ", " + c[2] + ")";
            DUE.is("fits" + call, x.fits(c[0], c[1], c[2]), -c[3]);
            DUE.is("next" + call, x.next(c[0], c[1], c[2]), -c[3] - 10);
            counts[c[3]] += 2;
        }
        int[][] wrong = {{10, 0}, {-1, 0}, {0, 2}, {0, -1}};
        for (int[] w : wrong) {
            Due.fill(x, 4, 2, w[0], w[1], 5, 1);
            DUE.is("fits -6, the first", x.fits(4, 2, 0), -6);
            DUE.is("next -16, the first", x.next(4, 2, 0), -16);
            DUE.is("none of them told", x.fits(4, 0, 0), nerves(0, 30));
            counts[6] += 2;
            Due.fill(x, 4, 2, 5, 1, w[0], w[1]);
            DUE.is("ahead of the wrong two", x.fits(4, 1, 0), nerves(0, 10));
            DUE.is("fits -6", x.fits(4, 2, 0), -6);
            DUE.is("next -16", x.next(4, 2, 0), -16);
            counts[6] += 2;
        }
        for (int r = 1; r <= 6; r++) {
            DUE.is("refused -" + r, x.status(10 + r), counts[r]);
        }
    }

    @Promise(23)
    private static void next() {
        TollForHesitators x = new TollForHesitators();
        // slows with a NERVE below FOG and 6
        x.comer(0, 0, 0, 2, 2, 0);
        Due.fill(x, 0, 2, 0, 0, 9, 1, 4, 0, 6, 1, 5, 1);
        DUE.is("of 0 to 30", x.next(0, 0, 0), 9);
        DUE.is("of 6 to 30", x.next(0, 1, 0), 9);
        DUE.is("of 6 to 14: five at most", x.next(0, 2, 0), 4);
        DUE.is("of 10 to 14", x.next(0, 3, 0), 6);
        DUE.is("of 10 and 11", x.next(0, 4, 0), 5);
        DUE.is("of 10 alone", x.next(0, 5, 0), -1);
        Due.fill(x, 1, 2, 0, 0, 0, 1);
        DUE.is("of none", x.next(1, 2, 0), -1);
        // of 0 to 3 a FOG of 1 leaves two and two
        x.tell(0, 2, 0);
        Due.fill(x, 1, 2, 3, 1);
        x.comer(0, 0, 0, 8, 0, 0);
        DUE.is("of 0 to 3", x.next(1, 1, 1), 1);
        x.comer(1, 0, 0, 1, 5, 0);
        DUE.is("a BLIND one: the least of FOGS that tell nothing", x.next(0, 0, 2), 0);
        Due.fill(x, 2, 2, 3, 1);
        DUE.is("the same", x.next(2, 1, 2), 0);
        Due.fill(x, 2, 2, 3, 0);
        x.tell(2, 2, 19);
        DUE.is("29 and 30", x.fits(2, 1, 2), 3 << 29);
        DUE.is("29 and 30, which nothing parts", x.next(2, 1, 2), 0);
        x.tell(2, 2, 20);
        DUE.is("30 alone", x.next(2, 1, 2), -1);
        DUE.is("nothing refused", x.status(11) + x.status(16), 0);
    }

    @Promise(24)
    private static void leader() {
        TollForHesitators x = new TollForHesitators();
        DUE.is("nobody", x.leader(0), -11);
        DUE.is("counted as -1", x.status(11), 1);
        // just bears his only look, and nothing that he sees
        x.comer(0, 0, 4, 8, 3, 0);
        DUE.is("nobody else", x.leader(0), -1);
        x.comer(0, 0, 0, 8, 0, 5);
        DUE.is("behind one who pays: the only one", x.leader(0), 1);
        x.comer(0, 0, 0, 8, 0, 4);
        DUE.is("better behind one who turns BACK", x.leader(0), 2);
        x.comer(0, 0, 9, 8, 0, 4);
        DUE.is("of several the first", x.leader(0), 2);
        x.tell(1, 1, 4);
        DUE.is("of several the first", x.leader(0), 1);
        x.tell(1, 1, 5);
        x.tell(2, 1, 5);
        DUE.is("behind one who goes freely", x.leader(0), 3);
        x.ask(1, 9);
        x.tell(0, 0, 13);
        DUE.is("the FOG counts: 3 slows in it", x.leader(0), 3);
        x.tell(3, 1, 5);
        DUE.is("and pays; of several the first", x.leader(0), 1);
        DUE.is("leader -11", x.leader(4), -11);
        DUE.is("leader -11", x.leader(-1), -11);
        DUE.is("counted as -1", x.status(11), 3);
        DUE.is("nothing is changed", x.comerOf(1, 5), 5);
        DUE.is("led by the first", x.leader(1), 0);
    }

    @Promise(24)
    private static void leaderKinds() {
        TollForHesitators x = new TollForHesitators();
        // LED, of eight looks
        x.comer(2, 0, 0, 1, 0, 0);
        x.comer(1, 0, 3, 1, 0, 0);
        x.comer(1, 0, 7, 1, 0, 0);
        x.comer(1, 0, 6, 1, 0, 0);
        DUE.is("he SLOWS last behind the greatest NERVE", x.leader(0), 2);
        x.tell(3, 0, 8);
        DUE.is("not at all is last of all", x.leader(0), 3);
        x.tell(3, 2, 9);
        DUE.is("that one pays not, but turns BACK", x.leader(0), 3);
        x.tell(3, 1, 5);
        DUE.is("that one pays: SEEN at the eighth look", x.leader(0), 2);
        x.tell(2, 0, 6);
        DUE.is("at the eighth the last", x.leader(0), 3);
        x.ask(0, 20);
        x.tell(1, 0, 19);
        x.tell(2, 0, 20);
        DUE.is("not at all is last, also of twenty looks", x.leader(0), 2);

        x = new TollForHesitators();
        // asks; just bears his only look
        x.comer(0, 0, 4, 8, 3, 0);
        x.comer(0, 0, 0, 8, 0, 5);
        // THROWN, who goes freely by half of the NERVE of the one behind him
        x.comer(3, 0, 0, 8, 1, 5);
        DUE.is("THROWN leads by the one who asks", x.leader(0), 2);
        x.tell(2, 2, 1);
        DUE.is("THROWN pays", x.leader(0), 1);
        x.tell(2, 1, 4);
        DUE.is("THROWN turns BACK", x.leader(0), 2);
        // THROWN asks: nobody is behind him
        x.comer(3, 0, 0, 4, 0, 5);
        x.comer(0, 0, 30, 8, 0, 5);
        x.tell(0, 0, 0);
        DUE.is("THROWN is led", x.leader(3), 4);
        x.tell(4, 0, 2);
        DUE.is("bears two looks", x.leader(3), 4);
        x.tell(4, 0, 1);
        x.tell(1, 0, 1);
        DUE.is("the second is one too many, behind the first who goes freely", x.leader(3), 1);
    }

    @Promise(25)
    private static void rest() {
        TollForHesitators x = new TollForHesitators();
        int[][] due = {{2, 1000}, {4, 1000}, {5, 1000}, {6, 833}, {7, 714}, {10, 500}, {998, 5}, {999, 5}};
        for (int[] d : due) {
            DUE.is("rest(" + d[0] + ")", x.rest(d[0]), d[1]);
        }
        x.ask(2, 99);
        DUE.is("rest(99)", x.rest(99), 1000);
        DUE.is("rest(100)", x.rest(100), 990);
        x.ask(2, 1);
        DUE.is("rest(2)", x.rest(2), 500);
        DUE.is("rest(999)", x.rest(999), 1);
        DUE.is("rest -6", x.rest(1), -6);
        DUE.is("rest -6", x.rest(0), -6);
        DUE.is("rest -6", x.rest(1000), -6);
        DUE.is("rest -6", x.rest(Integer.MIN_VALUE), -6);
        DUE.is("refused -6", x.status(16), 4);
    }

    @Promise(26)
    private static void painted() {
        TollForHesitators x = new TollForHesitators();
        int[][] due = {
            {0, 0, 0, 0}, {0, 20, 1000, 0}, {1000, 0, 0, 1000}, {1000, 20, 0, 1000}, {500, 0, 500, 500},
            {500, 1, 500, 666}, {500, 2, 500, 800}, {500, 5, 500, 969}, {1, 20, 1000, 1}, {1, 1, 0, 1000},
            {0, 1, 0, 0}, {250, 0, 0, 250}, {250, 1, 999, 250}, {333, 0, 77, 333},
            // 999000, 1998, 3, 0: cut each time
            {1, 1, 2, 333}, {1, 2, 2, 997}, {1, 3, 2, 1000},
            {2, 3, 100, 667}, {10, 20, 900, 76}
        };
        for (int[] d : due) {
            DUE.is("painted(" + d[0] + ", " + d[1] + ", " + d[2] + ")", x.painted(d[0], d[1], d[2]), d[3]);
        }
        int[][] wrong = {{-1, 0, 0}, {1001, 0, 0}, {0, -1, 0}, {0, 21, 0}, {0, 0, -1}, {0, 0, 1001}};
        for (int[] w : wrong) {
            DUE.is("painted -6", x.painted(w[0], w[1], w[2]), -6);
        }
        DUE.is("refused -6", x.status(16), 6);
    }
}
