/** Long runs of calls that look like chance, each answer held against the plain Model's. */
public final class ModelTest {
    private static final int RUNS = 2000;
    private static final int CALLS = 512;
    // how many of them whole() and a long step take
    private static final int WHOLE = 80;
    private static final int STEP = 60;

    private final Due due;
    private final int run;
    private final TollForHesitators x = new TollForHesitators();
    private final Model y = new Model();
    private long state;
    private int calls = 0;

    private ModelTest(Due due, int run) {
        this.due = due;
        this.run = run;
        state = run * 7919L + 1;
        below(2);
    }

    public static void main(String[] args) {
        Due due = new Due("ModelTest");
        for (int run = 0; run < RUNS && !due.failed(); run++) {
            new ModelTest(due, run).go();
        }
        due.end();
    }

    private int below(int n) {
        state = state * 6364136223846793005L + 1442695040888963407L;
        return (int) ((state >>> 33) % n);
    }

    private boolean seldom() {
        return below(24) == 0;
    }

    /** Mostly from lo to hi, seldom a bit beside it or far off. */
    private int about(int lo, int hi) {
        if (!seldom()) {
            return lo + below(hi - lo + 1);
        }
        switch (below(6)) {
            case 0:
                return lo - 1;
            case 1:
                return hi + 1;
            case 2:
                return Integer.MIN_VALUE;
            case 3:
                return Integer.MAX_VALUE;
            case 4:
                return lo - 2;
            default:
                return hi + below(50);
        }
    }

    private int someone() {
        int count = y.status(0);
        return about(0, Math.max(0, count - 1));
    }

    private void same(String call, long got, long want) {
        calls++;
        due.is("run " + run + " call " + calls + ": " + call, got, want);
    }

    private void go() {
        int first = below(8);
        for (int i = 0; i < first; i++) {
            comer();
        }
        while (calls < CALLS - WHOLE - STEP && !due.failed()) {
            step();
        }
        whole();
        due.holds("run " + run + " has no more calls than an object answers", calls <= CALLS);
    }

    private void step() {
        switch (below(22)) {
            case 0:
                comer();
                break;
            case 1:
            case 2:
                shelves();
                break;
            case 3:
                road();
                break;
            case 4:
            case 5:
                orders();
                break;
            case 6:
            case 7:
                twos();
                break;
            case 8:
            case 9:
            case 10:
                toldDay();
                break;
            case 11:
                int days = about(1, below(4) == 0 ? 60 : 3);
                same("days(" + days + ")", x.days(days), y.days(days));
                break;
            case 12:
            case 13:
                moves();
                break;
            case 14:
                keep();
                break;
            case 15:
            case 16:
                settings();
                break;
            case 17:
                bests();
                break;
            default:
                ones();
        }
    }

    private void comer() {
        int kind = about(0, 6);
        int a = about(0, 9);
        int nerve = about(0, 30);
        int pace = about(1, 9);
        int load = about(0, 9);
        int purse = about(0, below(2) == 0 ? 999 : 20);
        same("comer(" + kind + ", " + a + ", " + nerve + ", " + pace + ", " + load + ", " + purse + ")",
                x.comer(kind, a, nerve, pace, load, purse), y.comer(kind, a, nerve, pace, load, purse));
    }

    private void row(int s, int sort, int n) {
        same("row(" + s + ", " + sort + ", " + n + ")", x.row(s, sort, n), y.row(s, sort, n));
    }

    private void set(int s, int i, long v) {
        same("set(" + s + ", " + i + ", " + v + ")", x.set(s, i, v), y.set(s, i, v));
    }

    private void shelves() {
        int s = about(0, 7);
        int t = below(3) == 0 ? s : about(0, 7);
        switch (below(7)) {
            case 0:
                row(s, about(0, 3), about(0, below(3) == 0 ? 160 : 12));
                break;
            case 1:
            case 2:
                set(s, about(0, 11), state ^ state << 17);
                break;
            case 3:
                int i = about(0, 6);
                int j = about(0, 6);
                int n = about(0, 5);
                same("copy(" + s + ", " + t + ", " + i + ", " + j + ", " + n + ")", x.copy(s, t, i, j, n), y.copy(s, t, i, j, n));
                break;
            case 4:
                int c = below(4) == 0 ? -1 : someone();
                same("show(" + s + ", " + c + ")", x.show(s, c), y.show(s, c));
                break;
            case 5:
                int kind = about(0, 6);
                same("says(" + s + ", " + kind + ")", x.says(s, kind), y.says(s, kind));
                break;
            default:
                same("holds(" + s + ")", x.holds(s), y.holds(s));
                int e = about(0, 11);
                same("element(" + s + ", " + e + ")", x.element(s, e), y.element(s, e));
        }
    }

    private String number(int lo, int hi) {
        int v = Math.max(0, about(lo, hi)) % 1000;
        return seldom() && v < 10 ? "0" + v : "" + v;
    }

    private String item() {
        switch (below(7)) {
            case 0:
            case 1:
                return "comer " + number(0, 6) + " " + number(0, 9) + " " + number(0, 30) + " " + number(1, 9) + " "
                        + number(0, 9) + " " + number(0, 99);
            case 2:
                return "doubt " + number(0, Math.max(0, y.status(0) - 1)) + " " + number(0, 30);
            case 3:
                return "way " + number(1, 20);
            case 4:
                return "fog " + number(0, 9);
            case 5:
                return "toll " + number(1, 99);
            default:
                return "push " + number(1, 99);
        }
    }

    private void road() {
        StringBuilder text = new StringBuilder(item());
        for (int i = below(3); i > 0; i--) {
            text.append(';').append(item());
        }
        if (below(3) == 0) {
            String letters = " ;0123456789comerdubtwayfglpsh";
            text.setCharAt(below(text.length()), letters.charAt(below(letters.length())));
        }
        if (below(5) == 0) {
            text.setLength(below(text.length()));
        }
        int s = about(0, 7);
        if (calls + text.length() > CALLS - WHOLE) {
            return;
        }
        row(s, about(0, 3), text.length());
        for (int i = 0; i < text.length(); i++) {
            set(s, i, text.charAt(i));
        }
        same("road(" + s + ") of " + text, x.road(s), y.road(s));
        same("fault() of " + text, x.fault(), y.fault());
    }

    private void orders() {
        int s = about(0, 7);
        int count = y.status(0);
        int n = Math.max(0, about(0, Math.max(1, count)) % 9);
        row(s, 2 + below(2), n);
        for (int i = 0; i < n; i++) {
            int c = someone();
            for (int tries = 0; tries < 9 && holdsComer(s, i, c); tries++) {
                c = someone();
            }
            set(s, i, seldom() ? c + (1L << 32) : c);
        }
        int told = seldom() ? about(0, 8) : n;
        for (int what = 0; what < 6; what++) {
            same("order(" + s + ", " + told + ", " + what + ")", x.order(s, told, what), y.order(s, told, what));
        }
        int what = about(0, 5);
        same("order(" + s + ", " + told + ", " + what + ")", x.order(s, told, what), y.order(s, told, what));
    }

    private boolean holdsComer(int s, int before, int c) {
        for (int i = 0; i < before; i++) {
            if (y.element(s, i) == c) {
                return true;
            }
        }
        return false;
    }

    private void twos() {
        int s = about(0, 7);
        int c = someone();
        int n = below(seldom() ? 45 : 4);
        if (calls + 2 * n > CALLS - WHOLE) {
            return;
        }
        row(s, about(0, 3), seldom() ? 2 * n + 1 : Math.min(160, 2 * n));
        int nerve = below(31);
        for (int i = 0; i < n; i++) {
            int fog = about(0, 9);
            set(s, 2 * i, fog);
            set(s, 2 * i + 1, seldom() ? about(0, 1) : fog > nerve / 3 ? 1 : 0);
        }
        int told = seldom() ? about(0, 40) : n;
        same("fits(" + s + ", " + told + ", " + c + ")", x.fits(s, told, c), y.fits(s, told, c));
        same("next(" + s + ", " + told + ", " + c + ")", x.next(s, told, c), y.next(s, told, c));
    }

    /** A DAY that mostly is so: each result is found by asking the Model's judge. */
    private void toldDay() {
        int s = about(0, 7);
        int n = below(Math.min(7, y.status(0)) + 1);
        row(s, about(0, 3), n);
        int[] ones = new int[n];
        for (int i = 0; i < n; i++) {
            ones[i] = someone();
            for (int tries = 0; tries < 9 && repeats(ones, i); tries++) {
                ones[i] = someone();
            }
            set(s, i, 10L * ones[i]);
        }
        for (int tries = 0; tries < 2 * n; tries++) {
            int wrong = y.wrongPlace(s, n);
            if (wrong < 0 || seldom() || y.element(s, wrong) % 10 >= 2) {
                break;
            }
            same("judge(" + s + ", " + n + ")", x.judge(s, n), y.judge(s, n));
            set(s, wrong, y.element(s, wrong) + 1);
        }
        int told = seldom() ? about(0, 7) : n;
        same("judge(" + s + ", " + told + ")", x.judge(s, told), y.judge(s, told));
        for (int what = 0; what < 3; what++) {
            same("behind(" + s + ", " + told + ", " + what + ")", x.behind(s, told, what), y.behind(s, told, what));
        }
        if (seldom()) {
            int what = about(0, 2);
            same("behind(" + s + ", " + told + ", " + what + ")", x.behind(s, told, what), y.behind(s, told, what));
        }
        same("done(" + s + ", " + told + ")", x.done(s, told), y.done(s, told));
    }

    private static boolean repeats(int[] ones, int i) {
        for (int j = 0; j < i; j++) {
            if (ones[j] == ones[i]) {
                return true;
            }
        }
        return false;
    }

    private void moves() {
        int c = someone();
        int move = about(0, 2);
        int v = below(3) == 0 ? (int) state : about(-9, 9);
        same("act(" + c + ", " + move + ", " + v + ")", x.act(c, move, v), y.act(c, move, v));
        int i = about(0, 7);
        same("trace(" + i + ")", x.trace(i), y.trace(i));
        same("status(9)", x.status(9), y.status(9));
    }

    private void keep() {
        switch (below(5)) {
            case 0:
                same("image()", x.image(), y.image());
                break;
            case 1:
                same("restore()", x.restore(), y.restore());
                break;
            default:
                int v = below(2) == 0 ? (int) state : below(100);
                same("seed(" + v + ")", x.seed(v), y.seed(v));
        }
    }

    private void settings() {
        int what = about(0, 3);
        int v = about(what == 1 ? 0 : 1, what == 0 ? 20 : what == 1 ? 9 : below(2) == 0 ? 99 : 9);
        same("ask(" + what + ", " + v + ")", x.ask(what, v), y.ask(what, v));
        int c = someone();
        what = about(0, 2);
        v = about(0, what == 1 ? 999 : 30);
        same("tell(" + c + ", " + what + ", " + v + ")", x.tell(c, what, v), y.tell(c, what, v));
    }

    private void bests() {
        int i = below(6) == 0 ? about(-2, 6) : -1 - below(2);
        if (below(3) == 0) {
            i = someone();
        }
        same("best(" + i + ")", x.best(i), y.best(i));
        int what = about(0, 1);
        same("pushes(" + what + ")", x.pushes(what), y.pushes(what));
    }

    private void ones() {
        int c = someone();
        int what = about(0, 3);
        same("looks(" + c + ", " + what + ")", x.looks(c, what), y.looks(c, what));
        int fog = about(0, 9);
        same("slow(" + c + ", " + fog + ")", x.slow(c, fog), y.slow(c, fog));
        int of = below(3) == 0 ? -1 : c;
        same("brave(" + of + ")", x.brave(of), y.brave(of));
        int cost = about(1, below(2) == 0 ? 99 : 9);
        int part = about(0, 1);
        same("practise(" + c + ", " + cost + ", " + part + ")", x.practise(c, cost, part), y.practise(c, cost, part));
        same("leader(" + c + ")", x.leader(c), y.leader(c));
        int loss = about(2, 999);
        same("rest(" + loss + ")", x.rest(loss), y.rest(loss));
        int p = about(0, 1000);
        int k = about(0, 20);
        int q = about(0, 1000);
        same("painted(" + p + ", " + k + ", " + q + ")", x.painted(p, k, q), y.painted(p, k, q));
        int m = about(0, 6);
        same("comerOf(" + c + ", " + m + ")", x.comerOf(c, m), y.comerOf(c, m));
        same("brave", x.brave(c), y.brave(c));
        int st = about(0, 18);
        same("status(" + st + ")", x.status(st), y.status(st));
    }

    private void whole() {
        for (int what = -1; what <= 18; what++) {
            same("status(" + what + ")", x.status(what), y.status(what));
        }
        for (int c = 0; c < y.status(0); c++) {
            for (int what = 0; what <= 6; what++) {
                same("comerOf(" + c + ", " + what + ")", x.comerOf(c, what), y.comerOf(c, what));
            }
        }
        for (int s = 0; s < 8; s++) {
            same("holds(" + s + ")", x.holds(s), y.holds(s));
        }
    }
}
