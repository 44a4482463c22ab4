import java.util.ArrayList;
import java.util.List;

/** REFUSALS of every promise: which answer, which of several comes first, that nothing changes, and what counts it. */
public final class EdgeRefusalTest {
    private static final Due DUE = new Due("EdgeRefusalTest");
    private static final int MIN = Integer.MIN_VALUE;
    private static final int MAX = Integer.MAX_VALUE;

    // what the SHELVES of ready() hold; 7 holds NOTHING
    private static final int ORDER = 0;
    private static final int SHOWN = 1;
    private static final int FAULTY = 2;
    private static final int BYTES = 3;
    private static final int FULL = 4;
    private static final int NO_ELEMENTS = 5;
    private static final int WRONG_DAY = 6;
    private static final int NOTHING = 7;

    private interface Call {
        int on(TollForHesitators x);
    }

    /** A call that is refused, and its answer. */
    private record Refused(String call, int answer, Call made) {
    }

    public static void main(String[] args) {
        Suite.run(EdgeRefusalTest.class, DUE);
    }

    private static TollForHesitators ready() {
        TollForHesitators x = new TollForHesitators();
        x.comer(3, 4, 10, 3, 2, 50);
        x.comer(1, 2, 5, 4, 3, 7);
        x.image();
        x.comer(5, 1, 12, 5, 1, 90);
        x.ask(0, 9);
        x.ask(1, 2);
        x.ask(2, 6);
        x.ask(3, 3);
        x.tell(1, 2, 4);
        x.seed(-77);
        x.days(2);
        Due.fill(x, ORDER, 2, 2, 0, 1);
        x.show(SHOWN, 2);
        Due.write(x, FAULTY, 2, "fog 0;");
        x.road(FAULTY);
        Due.fill(x, BYTES, 0, 1, -2, 3);
        x.row(FULL, 2, 160);
        x.set(FULL, 159, 44);
        x.row(NO_ELEMENTS, 2, 0);
        Due.fill(x, WRONG_DAY, 2, 99, 5);
        x.act(0, 2, 8);
        return x;
    }

    private static void differ(String when, long[] now, long[] as, int counted) {
        for (int i = 0; i < as.length; i++) {
            DUE.is(when + ": " + State.name(i), now[i], as[i] + (i == counted ? 1 : 0));
        }
    }

    private static void all(List<Refused> calls, boolean touchesFault) {
        for (Refused r : calls) {
            TollForHesitators x = ready();
            TollForHesitators same = ready();
            int refusal = r.answer < -10 ? -r.answer - 10 : -r.answer;
            DUE.is(r.call, r.made.on(x), r.answer);
            differ("after " + r.call, State.of(x), fault(State.of(same), touchesFault, x), State.REFUSED + refusal);
            // THE IMAGE, which nothing shows but restore()
            DUE.is("restore() after " + r.call, x.restore(), same.restore());
            differ("restored after " + r.call, State.of(x), fault(State.of(same), touchesFault, x), State.REFUSED + refusal);
        }
    }

    /** A road() that came to a ROW tells its own FAULT. */
    private static long[] fault(long[] state, boolean touched, TollForHesitators x) {
        if (touched) {
            state[State.FAULT] = x.fault();
        }
        return state;
    }

    private static void all(List<Refused> calls) {
        all(calls, false);
    }

    // ---- of SHELVES

    @Promise(value = 2, says = {"-1; -4; -6 SORT; -7 n above 160.", "(the call answers the number; nothing changes but how many there were;",
        "the first that fits, in this order):"})
    private static void row() {
        List<Refused> calls = new ArrayList<>();
        calls.add(new Refused("row(8, 2, 3)", -1, x -> x.row(8, 2, 3)));
        calls.add(new Refused("row(0, 2, -1)", -4, x -> x.row(ORDER, 2, -1)));
        calls.add(new Refused("row(0, 4, 3)", -6, x -> x.row(ORDER, 4, 3)));
        calls.add(new Refused("row(0, 2, 161)", -7, x -> x.row(ORDER, 2, 161)));
        calls.add(new Refused("-7 over a COMER", -7, x -> x.row(SHOWN, 2, MAX)));
        calls.add(new Refused("-1 before -4", -1, x -> x.row(-1, 2, -1)));
        calls.add(new Refused("-1 before -6", -1, x -> x.row(-1, -1, 3)));
        calls.add(new Refused("-1 before -7", -1, x -> x.row(8, 2, 161)));
        calls.add(new Refused("-4 before -6", -4, x -> x.row(ORDER, 4, -1)));
        calls.add(new Refused("-6 before -7", -6, x -> x.row(ORDER, -1, 161)));
        all(calls);
    }

    @Promise(value = 3, says = "-1; -2; -3; -5.")
    private static void set() {
        List<Refused> calls = new ArrayList<>();
        calls.add(new Refused("set(-1, 0, 9)", -1, x -> x.set(-1, 0, 9)));
        calls.add(new Refused("set of a COMER", -2, x -> x.set(SHOWN, 0, 9)));
        calls.add(new Refused("set of NOTHING", -3, x -> x.set(NOTHING, 0, 9)));
        calls.add(new Refused("set(0, 3, 9)", -5, x -> x.set(ORDER, 3, 9)));
        calls.add(new Refused("set(0, -1, 9)", -5, x -> x.set(ORDER, -1, 9)));
        calls.add(new Refused("set of a ROW of none", -5, x -> x.set(NO_ELEMENTS, 0, 9)));
        calls.add(new Refused("set of a full ROW", -5, x -> x.set(FULL, 160, 9)));
        calls.add(new Refused("-1 before -5", -1, x -> x.set(8, -1, 9)));
        calls.add(new Refused("-2 before -5", -2, x -> x.set(SHOWN, -1, 9)));
        calls.add(new Refused("-3 before -5", -3, x -> x.set(NOTHING, 160, 9)));
        all(calls);
    }

    @Promise(value = 4, says = "-1; -2 also of two SORTS (when both hold something); -3 either; -4 n; -5 i or j below 0, or an end that isn't there.")
    private static void copy() {
        List<Refused> calls = new ArrayList<>();
        calls.add(new Refused("copy(-1, 0, ..)", -1, x -> x.copy(-1, ORDER, 0, 0, 1)));
        calls.add(new Refused("copy(0, 8, ..)", -1, x -> x.copy(ORDER, 8, 0, 0, 1)));
        calls.add(new Refused("of a COMER", -2, x -> x.copy(SHOWN, ORDER, 0, 0, 1)));
        calls.add(new Refused("to a COMER", -2, x -> x.copy(ORDER, SHOWN, 0, 0, 1)));
        calls.add(new Refused("of two SORTS", -2, x -> x.copy(BYTES, ORDER, 0, 0, 1)));
        calls.add(new Refused("of NOTHING", -3, x -> x.copy(NOTHING, ORDER, 0, 0, 1)));
        calls.add(new Refused("to NOTHING", -3, x -> x.copy(ORDER, NOTHING, 0, 0, 1)));
        calls.add(new Refused("n is -1", -4, x -> x.copy(ORDER, FULL, 0, 0, -1)));
        calls.add(new Refused("i is -1", -5, x -> x.copy(ORDER, FULL, -1, 0, 1)));
        calls.add(new Refused("j is -1", -5, x -> x.copy(ORDER, FULL, 0, -1, 1)));
        calls.add(new Refused("beyond the end of the first", -5, x -> x.copy(ORDER, FULL, 0, 0, 4)));
        calls.add(new Refused("beyond the end of the second", -5, x -> x.copy(ORDER, FULL, 0, 158, 3)));
        calls.add(new Refused("-1 before -2", -1, x -> x.copy(SHOWN, -1, 0, 0, 1)));
        calls.add(new Refused("-1 before -3", -1, x -> x.copy(8, NOTHING, 0, 0, 1)));
        calls.add(new Refused("-1 before -4", -1, x -> x.copy(ORDER, 8, 0, 0, -1)));
        calls.add(new Refused("-1 before -5", -1, x -> x.copy(ORDER, 8, -1, 0, 1)));
        calls.add(new Refused("-2 before -3", -2, x -> x.copy(NOTHING, SHOWN, 0, 0, 1)));
        calls.add(new Refused("-2 before -3", -2, x -> x.copy(SHOWN, NOTHING, 0, 0, 1)));
        calls.add(new Refused("-2 before -4", -2, x -> x.copy(BYTES, ORDER, 0, 0, -1)));
        calls.add(new Refused("-2 before -5", -2, x -> x.copy(SHOWN, ORDER, -1, 0, 1)));
        calls.add(new Refused("-3 before -4", -3, x -> x.copy(NOTHING, ORDER, 0, 0, -1)));
        calls.add(new Refused("-3 before -5", -3, x -> x.copy(ORDER, NOTHING, 0, -1, 1)));
        calls.add(new Refused("-4 before -5", -4, x -> x.copy(ORDER, FULL, -1, 160, MIN)));
        all(calls);
    }

    @Promise(value = 6, says = "1, 0. -1.")
    private static void show() {
        List<Refused> calls = new ArrayList<>();
        calls.add(new Refused("show(0, 3)", -1, x -> x.show(ORDER, 3)));
        calls.add(new Refused("show(1, -2)", -1, x -> x.show(SHOWN, -2)));
        calls.add(new Refused("show(8, 0)", -1, x -> x.show(8, 0)));
        calls.add(new Refused("show(-1, -1)", -1, x -> x.show(-1, -1)));
        all(calls);
    }

    @Promise(value = 8, says = "-1 SHELF, KIND; -2 also a COMER of another KIND; -3.")
    private static void says() {
        List<Refused> calls = new ArrayList<>();
        calls.add(new Refused("says(8, 0)", -1, x -> x.says(8, 0)));
        calls.add(new Refused("says(1, 7)", -1, x -> x.says(SHOWN, 7)));
        calls.add(new Refused("says of a ROW", -2, x -> x.says(ORDER, 0)));
        calls.add(new Refused("says of another KIND", -2, x -> x.says(SHOWN, 2)));
        calls.add(new Refused("says of NOTHING", -3, x -> x.says(NOTHING, 0)));
        calls.add(new Refused("-1 before -2", -1, x -> x.says(ORDER, -1)));
        calls.add(new Refused("-1 before -3", -1, x -> x.says(NOTHING, 7)));
        all(calls);
    }

    // ---- of the ROAD

    @Promise(value = 9, says = "-1 KIND; -6; -7.")
    private static void comer() {
        List<Refused> calls = new ArrayList<>();
        calls.add(new Refused("KIND 7", -1, x -> x.comer(7, 0, 0, 1, 0, 0)));
        calls.add(new Refused("a is 10", -6, x -> x.comer(0, 10, 0, 1, 0, 0)));
        calls.add(new Refused("NERVE 31", -6, x -> x.comer(0, 0, 31, 1, 0, 0)));
        calls.add(new Refused("PACE 0", -6, x -> x.comer(0, 0, 0, 0, 0, 0)));
        calls.add(new Refused("LOAD 10", -6, x -> x.comer(0, 0, 0, 1, 10, 0)));
        calls.add(new Refused("PURSE 1000", -6, x -> x.comer(0, 0, 0, 1, 0, 1000)));
        calls.add(new Refused("-1 before -6", -1, x -> x.comer(-1, -1, -1, 0, -1, -1)));
        all(calls);
    }

    @Promise(value = 9, says = "-7.")
    private static void comerWhenThereIsNoRoom() {
        TollForHesitators x = ready();
        for (int c = 3; c <= 6; c++) {
            x.comer(0, 0, 0, 1, 0, 0);
        }
        long[] as = State.of(x);
        DUE.is("an eighth", x.comer(0, 0, 0, 1, 0, 0), -7);
        differ("after it", State.of(x), as, State.REFUSED + 7);
    }

    @Promise(value = {10, 11}, says = {"becomes v: what it was. -6.", "-1; -6."})
    private static void askAndTell() {
        List<Refused> calls = new ArrayList<>();
        int[][] asked = {{0, 0}, {0, 21}, {1, -1}, {1, 10}, {2, 0}, {2, 100}, {3, 0}, {3, 100}, {4, 1}, {-1, 1}};
        for (int[] a : asked) {
            calls.add(new Refused("ask(" + a[0] + ", " + a[1] + ")", -6, x -> x.ask(a[0], a[1])));
        }
        int[][] told = {{0, -1}, {0, 31}, {1, -1}, {1, 1000}, {2, -1}, {2, 31}, {3, 1}, {-1, 1}};
        for (int[] t : told) {
            calls.add(new Refused("tell(2, " + t[0] + ", " + t[1] + ")", -6, x -> x.tell(2, t[0], t[1])));
        }
        calls.add(new Refused("tell(3, 0, 1)", -1, x -> x.tell(3, 0, 1)));
        calls.add(new Refused("-1 before -6", -1, x -> x.tell(-1, 3, 31)));
        all(calls);
    }

    @Promise(value = 12, says = "-5: no such one, another what.")
    private static void comerOf() {
        List<Refused> calls = new ArrayList<>();
        calls.add(new Refused("comerOf(3, 0)", -5, x -> x.comerOf(3, 0)));
        calls.add(new Refused("comerOf(-1, 0)", -5, x -> x.comerOf(-1, 0)));
        calls.add(new Refused("comerOf(0, 7)", -5, x -> x.comerOf(0, 7)));
        calls.add(new Refused("comerOf(0, -1)", -5, x -> x.comerOf(0, -1)));
        all(calls);
    }

    @Promise(value = {13, 14}, says = {"-1; -2; -3; -6 a FAULT.", "The FAULT of the latest road() that came to a ROW;"})
    private static void road() {
        List<Refused> calls = new ArrayList<>();
        calls.add(new Refused("road(8)", -1, x -> x.road(8)));
        calls.add(new Refused("road of a COMER", -2, x -> x.road(SHOWN)));
        calls.add(new Refused("road of NOTHING", -3, x -> x.road(NOTHING)));
        all(calls);
        calls.clear();
        calls.add(new Refused("road of no letters", -6, x -> x.road(ORDER)));
        calls.add(new Refused("road of none", -6, x -> x.road(NO_ELEMENTS)));
        // the FOG of 0 that it tells first is not told
        calls.add(new Refused("road with a FAULT", -6, x -> x.road(FAULTY)));
        all(calls, true);
    }

    // ---- of one

    @Promise(value = {15, 16, 17}, says = {"-1; -5 another what.", "-11; -16 (counted as -1, -6).", "FOGS of one. -1."})
    private static void oneWhoComes() {
        List<Refused> calls = new ArrayList<>();
        calls.add(new Refused("looks(3, 0)", -1, x -> x.looks(3, 0)));
        calls.add(new Refused("looks(0, 4)", -5, x -> x.looks(0, 4)));
        calls.add(new Refused("looks: -1 before -5", -1, x -> x.looks(-1, 4)));
        calls.add(new Refused("slow(3, 0)", -11, x -> x.slow(3, 0)));
        calls.add(new Refused("slow(0, 10)", -16, x -> x.slow(0, 10)));
        calls.add(new Refused("slow(0, -1)", -16, x -> x.slow(0, -1)));
        calls.add(new Refused("slow: -11 before -16", -11, x -> x.slow(-1, 10)));
        calls.add(new Refused("brave(3)", -1, x -> x.brave(3)));
        calls.add(new Refused("brave(-2)", -1, x -> x.brave(-2)));
        all(calls);
    }

    @Promise(value = {21, 24, 25, 26}, says = {"-1; -5 another what; -6 c.", "-11 (counted as -1).", "-6 c.",
        "-6 p, q not 0 to 1000, k."})
    private static void practisedLedAndMet() {
        List<Refused> calls = new ArrayList<>();
        calls.add(new Refused("practise(3, 1, 0)", -1, x -> x.practise(3, 1, 0)));
        calls.add(new Refused("practise(0, 1, 2)", -5, x -> x.practise(0, 1, 2)));
        calls.add(new Refused("practise(0, 100, 0)", -6, x -> x.practise(0, 100, 0)));
        calls.add(new Refused("practise: -1 before -5", -1, x -> x.practise(-1, 1, 2)));
        calls.add(new Refused("practise: -1 before -6", -1, x -> x.practise(3, 0, 0)));
        calls.add(new Refused("practise: -5 before -6", -5, x -> x.practise(0, 0, -1)));
        calls.add(new Refused("leader(3)", -11, x -> x.leader(3)));
        calls.add(new Refused("leader(-1)", -11, x -> x.leader(-1)));
        calls.add(new Refused("rest(1)", -6, x -> x.rest(1)));
        calls.add(new Refused("rest(1000)", -6, x -> x.rest(1000)));
        calls.add(new Refused("painted(1001, 0, 0)", -6, x -> x.painted(1001, 0, 0)));
        calls.add(new Refused("painted(0, 21, 0)", -6, x -> x.painted(0, 21, 0)));
        calls.add(new Refused("painted(0, 0, 1001)", -6, x -> x.painted(0, 0, 1001)));
        all(calls);
    }

    @Promise(value = {22, 23}, says = {"-1; -2; -3; -4 n; -5 fewer elements; -6 n above 40, no FOG, neither 0 nor 1.",
        "-11; -12; -13; -14; -15; -16 (counted as -1 to -6)."})
    private static void twos() {
        // SHELF, n, COMER, and the refusal
        int[][] refused = {
            {8, 0, 0, 1}, {-1, 0, 0, 1}, {FULL, 1, 3, 1}, {FULL, 1, -1, 1}, {SHOWN, 0, 0, 2}, {NOTHING, 0, 0, 3}, {FULL, -1, 0, 4},
            {ORDER, 2, 0, 5}, {FULL, 81, 0, 5}, {FULL, 41, 0, 6}, {WRONG_DAY, 1, 0, 6},
            // the first of two that fit
            {SHOWN, 0, 3, 1}, {NOTHING, 0, 3, 1}, {FULL, -1, 3, 1}, {ORDER, 2, 3, 1}, {FULL, 41, 3, 1}, {SHOWN, -1, 0, 2},
            {SHOWN, 99, 0, 2}, {NOTHING, -1, 0, 3}, {NOTHING, 99, 0, 3}, {ORDER, 41, 0, 5}, {WRONG_DAY, 2, 0, 5}
        };
        List<Refused> calls = new ArrayList<>();
        for (int[] r : refused) {
            String with = "(" + r[0] + ", " + r[1] + ", " + r[2] + ")";
            calls.add(new Refused("fits" + with, -r[3], x -> x.fits(r[0], r[1], r[2])));
            calls.add(new Refused("next" + with, -10 - r[3], x -> x.next(r[0], r[1], r[2])));
        }
        all(calls);
    }

    // ---- of ORDERS and DAYS

    @Promise(value = {18, 19, 20}, says = {
        "-1; -2; -3; -4 n; -5 fewer elements, another what; -6 n above 7, a COMER that isn't there, or twice.",
        "-15 no such i (counted as -5).", "-5 another what."})
    private static void orders() {
        // SHELF, n, what, and the refusal
        int[][] refused = {
            {8, 0, 0, 1}, {SHOWN, 0, 0, 2}, {NOTHING, 0, 0, 3}, {ORDER, -1, 0, 4}, {ORDER, 4, 0, 5}, {ORDER, 3, 6, 5},
            {ORDER, 3, -1, 5}, {FULL, 8, 0, 6}, {FULL, 2, 0, 6}, {WRONG_DAY, 1, 0, 6},
            // the first of two that fit
            {-1, -1, 0, 1}, {8, 0, 6, 1}, {SHOWN, -1, 0, 2}, {SHOWN, 8, 6, 2}, {NOTHING, -1, 0, 3}, {NOTHING, 1, 6, 3},
            {ORDER, -1, 6, 4}, {FULL, 161, 0, 5}, {ORDER, 8, 0, 5}, {FULL, 8, 6, 5}, {WRONG_DAY, 1, -1, 5}, {WRONG_DAY, 3, 0, 5}
        };
        List<Refused> calls = new ArrayList<>();
        for (int[] r : refused) {
            calls.add(new Refused("order(" + r[0] + ", " + r[1] + ", " + r[2] + ")", -r[3], x -> x.order(r[0], r[1], r[2])));
        }
        calls.add(new Refused("best(3)", -15, x -> x.best(3)));
        calls.add(new Refused("best(-3)", -15, x -> x.best(-3)));
        calls.add(new Refused("pushes(2)", -5, x -> x.pushes(2)));
        calls.add(new Refused("pushes(-1)", -5, x -> x.pushes(-1)));
        all(calls);
    }

    @Promise(value = {27, 28, 29}, says = {"-11; -12; -13; -14 n; -15 fewer elements; -16 n above 7 (counted as -1 to -6).",
        "-1; -2; -3; -4; -5 also another what; -6 also if it is WRONG.", "-1; -2; -3; -4; -5; -6 likewise."})
    private static void toldDays() {
        int[][] refused = {
            {8, 0, 1}, {SHOWN, 0, 2}, {NOTHING, 0, 3}, {ORDER, -1, 4}, {ORDER, 4, 5}, {NO_ELEMENTS, 1, 5}, {FULL, 8, 6},
            // the first of two that fit
            {-1, -1, 1}, {8, 8, 1}, {SHOWN, -1, 2}, {SHOWN, 8, 2}, {NOTHING, -1, 3}, {NOTHING, 8, 3}, {ORDER, 8, 5}, {FULL, 161, 5},
            {WRONG_DAY, 3, 5}
        };
        List<Refused> calls = new ArrayList<>();
        for (int[] r : refused) {
            String with = "(" + r[0] + ", " + r[1] + ")";
            calls.add(new Refused("judge" + with, -10 - r[2], x -> x.judge(r[0], r[1])));
            calls.add(new Refused("behind" + with, -r[2], x -> x.behind(r[0], r[1], 0)));
            calls.add(new Refused("done" + with, -r[2], x -> x.done(r[0], r[1])));
        }
        calls.add(new Refused("behind a WRONG DAY", -6, x -> x.behind(WRONG_DAY, 1, 0)));
        calls.add(new Refused("done of a WRONG DAY", -6, x -> x.done(WRONG_DAY, 1)));
        calls.add(new Refused("behind: another what", -5, x -> x.behind(ORDER, 0, 3)));
        calls.add(new Refused("behind: another what", -5, x -> x.behind(ORDER, 0, -1)));
        calls.add(new Refused("behind: -3 before -5", -3, x -> x.behind(NOTHING, 0, 3)));
        calls.add(new Refused("behind: -4 before -5", -4, x -> x.behind(ORDER, -1, 3)));
        calls.add(new Refused("behind: -5 before -6, n above 7", -5, x -> x.behind(FULL, 8, 3)));
        calls.add(new Refused("behind: -5 before -6, WRONG", -5, x -> x.behind(WRONG_DAY, 1, 3)));
        all(calls);
    }

    @Promise(value = 30, says = "-5 no COMERS; -6.")
    private static void days() {
        List<Refused> calls = new ArrayList<>();
        calls.add(new Refused("days(0)", -6, x -> x.days(0)));
        calls.add(new Refused("days(61)", -6, x -> x.days(61)));
        calls.add(new Refused("days(MIN)", -6, x -> x.days(MIN)));
        all(calls);
    }

    @Promise(value = 30, says = "-5 no COMERS; -6.")
    private static void daysOfNoComersChangeNothing() {
        TollForHesitators x = new TollForHesitators();
        long[] as = State.of(x);
        DUE.is("days(1)", x.days(1), -5);
        differ("after days(1)", State.of(x), as, State.REFUSED + 5);
        as = State.of(x);
        DUE.is("-5 before -6", x.days(0), -5);
        differ("after days(0)", State.of(x), as, State.REFUSED + 5);
    }

    @Promise(value = 35, says = "-6 there is none.")
    private static void restoreOfNoImage() {
        TollForHesitators x = new TollForHesitators();
        x.comer(2, 3, 4, 5, 6, 7);
        x.show(0, 0);
        x.days(1);
        long[] as = State.of(x);
        DUE.is("restore()", x.restore(), -6);
        differ("after restore()", State.of(x), as, State.REFUSED + 6);
    }

    // ---- what is never refused

    @Promise(value = {5, 7, 14, 31, 32, 33, 34, 36}, says = {"0 if there is none (nothing is refused).",
        "NONE NOTHING, or no such SHELF;", "NONE: there was none, or none yet.", "SEED becomes v: what it was (nothing is refused).",
        "0, and no TRACE then: no such COMER, move.", "NONE: none such.", "THE IMAGE of all but SHELVES", "NONE for another what."})
    private static void neverRefused() {
        TollForHesitators x = ready();
        long[] as = State.of(x);
        int[] far = {MIN, -2, -1, 10, 18, 161, MAX};
        for (int f : far) {
            DUE.is("element", x.element(f, f) + x.element(f, 0) + x.element(0, f), 0);
            DUE.is("holds", x.holds(f), -1);
            DUE.is("trace", x.trace(f), -1);
            DUE.is("status", x.status(f), -1);
        }
        x.seed(x.seed(MAX));
        x.fault();
        x.image();
        differ("after all these", State.of(x), as, -1);
        for (int f : far) {
            x.act(f, f, f);
            x.act(f, 0, f);
            x.act(0, f, f);
        }
        for (int r = 1; r <= 7; r++) {
            DUE.is("refused -" + r, x.status(10 + r), as[State.REFUSED + r]);
        }
    }

    @Promise({13, 18, 22, 27, 28, 29})
    private static void manyInOneRunAreCountedEach() {
        TollForHesitators x = ready();
        int before = x.status(16);
        for (int i = 0; i < 20; i++) {
            x.road(FAULTY);
            x.order(FULL, 8, 0);
            x.fits(FULL, 41, 0);
            x.next(FULL, 41, 0);
            x.judge(FULL, 8);
            x.behind(WRONG_DAY, 1, 0);
            x.done(WRONG_DAY, 1);
        }
        DUE.is("refused -6", x.status(16), before + 140);
        DUE.is("WRONG is no refusal", x.judge(WRONG_DAY, 1), 0);
        DUE.is("refused -6", x.status(16), before + 140);
    }
}
