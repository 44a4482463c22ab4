import java.util.ArrayList;
import java.util.List;

/** The document once more, in the plainest words and without regard to cost: what the class is measured by. */
final class Model {
    private static final int[] ABOVE = {-1, 0, 0, 2, 0, 4, 1};

    private static final class One {
        int kind, a, nerve, pace, load, purse, doubt;

        One twin() {
            One t = new One();
            t.kind = kind; t.a = a; t.nerve = nerve; t.pace = pace; t.load = load; t.purse = purse; t.doubt = doubt;
            return t;
        }
    }

    private static final class World {
        List<One> ones = new ArrayList<>();
        int way = 8, fog = 0, toll = 5, push = 1, days = 0, seed = 1;

        World twin() {
            World t = new World();
            for (One o : ones) t.ones.add(o.twin());
            t.way = way; t.fog = fog; t.toll = toll; t.push = push; t.days = days; t.seed = seed;
            return t;
        }
    }

    private World w = new World();
    private World kept = null;
    // null NOTHING, Integer a COMER, long[] a ROW
    private final Object[] shelves = new Object[8];
    private final int[] sorts = new int[8];
    private final int[] refusals = new int[8];
    private int fault = -1;
    private final List<Integer> trace = new ArrayList<>();

    private int no(int number) { refusals[number]++; return -number; }
    private boolean isShelf(int s) { return s >= 0 && s < 8; }
    private boolean is(int c) { return c >= 0 && c < w.ones.size(); }
    private static boolean in(int v, int lo, int hi) { return lo <= v && v <= hi; }
    private static boolean under(int kind, int wanted) {
        for (int k = kind; k >= 0; k = ABOVE[k]) if (k == wanted) return true;
        return false;
    }

    int row(int s, int sort, int n) {
        if (!isShelf(s)) return no(1);
        if (n < 0) return no(4);
        if (sort < 0 || sort > 3) return no(6);
        if (n > 160) return no(7);
        shelves[s] = new long[n];
        sorts[s] = sort;
        return 1;
    }

    private int notRow(int s) {
        if (!isShelf(s)) return 1;
        if (shelves[s] instanceof Integer) return 2;
        return shelves[s] == null ? 3 : 0;
    }

    int set(int s, int i, long v) {
        int r = notRow(s);
        if (r > 0) return no(r);
        long[] e = (long[]) shelves[s];
        if (i < 0 || i >= e.length) return no(5);
        e[i] = sorts[s] == 0 ? (byte) v : sorts[s] == 1 ? (short) v : sorts[s] == 2 ? (int) v : v;
        return 1;
    }

    int copy(int p, int q, int i, int j, int n) {
        if (!isShelf(p) || !isShelf(q)) return no(1);
        if (shelves[p] instanceof Integer || shelves[q] instanceof Integer) return no(2);
        if (shelves[p] != null && shelves[q] != null && sorts[p] != sorts[q]) return no(2);
        if (shelves[p] == null || shelves[q] == null) return no(3);
        if (n < 0) return no(4);
        long[] from = (long[]) shelves[p];
        long[] to = (long[]) shelves[q];
        if (i < 0 || j < 0 || (long) i + n > from.length || (long) j + n > to.length) return no(5);
        long[] were = from.clone();
        for (int k = 0; k < n; k++) to[j + k] = were[i + k];
        return 1;
    }

    long element(int s, int i) {
        if (!isShelf(s) || !(shelves[s] instanceof long[])) return 0;
        long[] e = (long[]) shelves[s];
        return i < 0 || i >= e.length ? 0 : e[i];
    }

    int show(int s, int comer) {
        if (!isShelf(s) || (comer != -1 && !is(comer))) return no(1);
        shelves[s] = comer == -1 ? null : Integer.valueOf(comer);
        return comer == -1 ? 0 : 1;
    }

    int holds(int s) {
        if (!isShelf(s) || shelves[s] == null) return -1;
        return shelves[s] instanceof Integer ? (Integer) shelves[s] : 100 + sorts[s];
    }

    int says(int s, int kind) {
        if (!isShelf(s) || kind < 0 || kind > 6) return no(1);
        if (shelves[s] instanceof long[]) return no(2);
        if (shelves[s] == null) return no(3);
        One o = w.ones.get((Integer) shelves[s]);
        if (!under(o.kind, kind)) return no(2);
        if (kind == 0) return o.nerve;
        if (kind == 1 || kind == 6) return o.load;
        if (kind == 2 || kind == 3) return o.pace;
        return step(o);
    }

    int comer(int kind, int a, int nerve, int pace, int load, int purse) {
        if (kind < 0 || kind > 6) return no(1);
        if (!in(a, 0, 9) || !in(nerve, 0, 30) || !in(pace, 1, 9) || !in(load, 0, 9) || !in(purse, 0, 999)) return no(6);
        if (w.ones.size() >= 7) return no(7);
        add(w, new int[] {kind, a, nerve, pace, load, purse});
        return w.ones.size() - 1;
    }

    private static void add(World x, int[] v) {
        One o = new One();
        o.kind = v[0]; o.a = v[1]; o.nerve = v[2]; o.pace = v[3]; o.load = v[4]; o.purse = v[5];
        x.ones.add(o);
    }

    int ask(int what, int v) {
        int was;
        if (what == 0) { if (!in(v, 1, 20)) return no(6); was = w.way; w.way = v; return was; }
        if (what == 1) { if (!in(v, 0, 9)) return no(6); was = w.fog; w.fog = v; return was; }
        if (what == 2) { if (!in(v, 1, 99)) return no(6); was = w.toll; w.toll = v; return was; }
        if (what == 3) { if (!in(v, 1, 99)) return no(6); was = w.push; w.push = v; return was; }
        return no(6);
    }

    int tell(int comer, int what, int v) {
        if (!is(comer)) return no(1);
        One o = w.ones.get(comer);
        int was;
        if (what == 0) { if (!in(v, 0, 30)) return no(6); was = o.nerve; o.nerve = v; return was; }
        if (what == 1) { if (!in(v, 0, 999)) return no(6); was = o.purse; o.purse = v; return was; }
        if (what == 2) { if (!in(v, 0, 30)) return no(6); was = o.doubt; o.doubt = v; return was; }
        return no(6);
    }

    int comerOf(int comer, int what) {
        if (!is(comer) || what < 0 || what > 6) return no(5);
        One o = w.ones.get(comer);
        return new int[] {o.kind, o.a, o.nerve, o.pace, o.load, o.purse, o.doubt}[what];
    }

    // ---- the text as a chain of what is due at each place

    private int[] text;
    private int at;

    /** The value of the NUMBER at the place, or -1, with the fault told. */
    private int numberIn(int lo, int hi) {
        if (at >= text.length || text[at] != ' ') { fault = at; return -1; }
        int begin = ++at;
        StringBuilder digits = new StringBuilder();
        while (digits.length() < 2 && at < text.length && "0123456789".indexOf(text[at]) >= 0) digits.append((char) text[at++]);
        if (digits.length() == 0) { fault = begin; return -1; }
        int v = Integer.parseInt(digits.toString());
        if (v < lo || v > hi) { fault = begin; return -1; }
        return v;
    }

    private boolean oneItem(World x) {
        String[] words = {"comer", "doubt", "way", "fog", "toll", "push"};
        int begin = at;
        int longest = 0;
        String whole = null;
        for (String word : words) {
            int same = 0;
            while (same < word.length() && begin + same < text.length && text[begin + same] == word.charAt(same)) same++;
            longest = Math.max(longest, same);
            if (same == word.length()) whole = word;
        }
        if (whole == null) { fault = begin + longest; return false; }
        if (whole.equals("comer") && x.ones.size() == 7) { fault = begin; return false; }
        at = begin + whole.length();
        int[][] lo = {{0, 0, 0, 1, 0, 0}, {0, 0}, {1}, {0}, {1}, {1}};
        int[][] hi = {{6, 9, 30, 9, 9, 99}, {x.ones.size() - 1, 30}, {20}, {9}, {99}, {99}};
        for (int k = 0; k < words.length; k++) {
            if (!words[k].equals(whole)) continue;
            int[] v = new int[lo[k].length];
            for (int i = 0; i < v.length; i++) {
                v[i] = numberIn(lo[k][i], hi[k][i]);
                if (v[i] < 0) return false;
            }
            if (k == 0) add(x, v);
            if (k == 1) x.ones.get(v[0]).doubt = v[1];
            if (k == 2) x.way = v[0];
            if (k == 3) x.fog = v[0];
            if (k == 4) x.toll = v[0];
            if (k == 5) x.push = v[0];
        }
        return true;
    }

    int road(int s) {
        int r = notRow(s);
        if (r > 0) return no(r);
        long[] e = (long[]) shelves[s];
        text = new int[e.length];
        for (int i = 0; i < e.length; i++) text[i] = (int) e[i];
        at = 0;
        fault = -1;
        World x = w.twin();
        int items = 0;
        while (true) {
            if (!oneItem(x)) return no(6);
            items++;
            if (at == text.length) { w = x; return items; }
            if (text[at] != ';') { fault = at; return no(6); }
            at++;
        }
    }

    int fault() { return fault; }

    // ---- one who comes

    private int looksOf(One o) {
        if (o.kind == 6) return 1;
        int looks = 0;
        for (int gone = 0; gone < w.way; gone += o.pace) looks++;
        return looks;
    }

    private int step(One o) {
        switch (o.kind) {
            case 1: return 0;
            case 6: return o.a;
            case 4: return 2;
            case 5: return 2 + o.a;
            default: return 1;
        }
    }

    private int burden(One o, int fog) { return under(o.kind, 1) ? 2 * o.load : fog + o.load; }

    private int courage(One o, One ahead, One behind) {
        int c = o.nerve;
        if (under(o.kind, 2) && ahead != null && ahead.nerve > c) c = ahead.nerve;
        if (o.kind == 3 && behind != null) c += behind.nerve / 2;
        return c;
    }

    private int slows(One o, int fog, One ahead, One behind, int seen) {
        int courage = courage(o, ahead, behind);
        for (int k = 1; k <= looksOf(o); k++)
            if (o.doubt + seen + burden(o, fog) + k * step(o) > courage) return k;
        return -1;
    }

    private boolean slowsWith(One o, int nerve, int fog) {
        One t = o.twin();
        t.nerve = nerve;
        return slows(t, fog, null, null, 0) != -1;
    }

    int looks(int comer, int what) {
        if (!is(comer)) return no(1);
        if (what < 0 || what > 3) return no(5);
        One o = w.ones.get(comer);
        return new int[] {looksOf(o), step(o), burden(o, w.fog), o.nerve}[what];
    }

    int slow(int comer, int fog) {
        if (!is(comer)) return no(1) - 10;
        if (fog < 0 || fog > 9) return no(6) - 10;
        return slows(w.ones.get(comer), fog, null, null, 0);
    }

    private int fogs(One o, int nerve) {
        int n = 0;
        for (int f = 0; f < 10; f++) if (slowsWith(o, nerve, f)) n++;
        return n;
    }

    int brave(int comer) {
        if (comer == -1) {
            int bits = 0;
            for (int c = 0; c < w.ones.size(); c++) if (fogs(w.ones.get(c), w.ones.get(c).nerve) == 0) bits += 1 << c;
            return bits;
        }
        if (!is(comer)) return no(1);
        return fogs(w.ones.get(comer), w.ones.get(comer).nerve);
    }

    // ---- orders: what becomes of each, 0 freely, 1 paid, 2 back

    private int[] run(int[] order, int pushed) {
        int[] out = new int[order.length];
        for (int i = 0; i < order.length; i++) {
            int paid = 0;
            int free = 0;
            for (int j = 0; j < i; j++) {
                if (out[j] == 1) paid++;
                if (out[j] == 0) free++;
            }
            One o = w.ones.get(order[i]);
            One ahead = i == 0 ? null : w.ones.get(order[i - 1]);
            One behind = i == order.length - 1 ? null : w.ones.get(order[i + 1]);
            int look = slows(o, w.fog, ahead, behind, Math.max(0, paid - free));
            out[i] = look == -1 || (pushed >> order[i] & 1) == 1 ? 0 : o.purse >= w.toll ? 1 : 2;
        }
        return out;
    }

    private static int many(int[] out, int which) {
        int n = 0;
        for (int o : out) if (o == which) n++;
        return n;
    }

    private static int bits(int[] order, int[] out, int which) {
        int n = 0;
        for (int i = 0; i < out.length; i++) if (out[i] == which) n |= 1 << order[i];
        return n;
    }

    private int notDay(int s, int n, boolean what) {
        int r = notRow(s);
        if (r > 0) return r;
        if (n < 0) return 4;
        if (n > ((long[]) shelves[s]).length || !what) return 5;
        return n > 7 ? 6 : 0;
    }

    int order(int s, int n, int what) {
        int r = notDay(s, n, in(what, 0, 5));
        if (r > 0) return no(r);
        int[] order = new int[n];
        for (int i = 0; i < n; i++) {
            order[i] = (int) ((long[]) shelves[s])[i];
            if (!is(order[i])) return no(6);
            for (int j = 0; j < i; j++) if (order[j] == order[i]) return no(6);
        }
        int[] out = run(order, 0);
        if (what < 3) return many(out, what);
        return what == 3 ? w.toll * many(out, 1) : bits(order, out, what - 3);
    }

    private int[] bestOrder;
    private long bestOf;

    private void permute(int[] order, int depth, int used) {
        if (depth == order.length) {
            int[] out = run(order, 0);
            long of = many(out, 2) * 100000L + many(out, 1) * (long) w.toll;
            if (bestOrder == null || of < bestOf) {
                bestOrder = order.clone();
                bestOf = of;
            }
            return;
        }
        for (int c = 0; c < order.length; c++) {
            if ((used >> c & 1) == 1) continue;
            order[depth] = c;
            permute(order, depth + 1, used | 1 << c);
        }
    }

    int best(int i) {
        if (i < -2 || i >= w.ones.size()) return no(5) - 10;
        bestOrder = null;
        permute(new int[w.ones.size()], 0, 0);
        return i == -1 ? (int) (bestOf % 100000L) : i == -2 ? (int) (bestOf / 100000L) : bestOrder[i];
    }

    private int[] byNumbers() {
        int[] order = new int[w.ones.size()];
        for (int i = 0; i < order.length; i++) order[i] = i;
        return order;
    }

    int pushes(int what) {
        if (what < 0 || what > 1) return no(5);
        int bits = -1;
        int least = Integer.MAX_VALUE;
        for (int p = 0; p < 1 << w.ones.size(); p++) {
            int[] out = run(byNumbers(), p);
            int sum = w.push * Integer.bitCount(p) + w.toll * many(out, 1) + 1000 * many(out, 2);
            if (sum < least) { least = sum; bits = p; }
        }
        return what == 0 ? bits : least;
    }

    int practise(int comer, int c, int what) {
        if (!is(comer)) return no(1);
        if (what < 0 || what > 1) return no(5);
        if (c < 1 || c > 99) return no(6);
        int times = -1;
        int least = Integer.MAX_VALUE;
        for (int n = 0; n <= 20; n++) {
            One o = w.ones.get(comer);
            int sum = n * c + w.toll * fogs(o, Math.min(30, o.nerve + n));
            if (sum < least) { least = sum; times = n; }
        }
        return what == 0 ? times : least;
    }

    private int notTwos(int s, int n, int comer) {
        if (!isShelf(s) || !is(comer)) return 1;
        int r = notRow(s);
        if (r > 0) return r;
        if (n < 0) return 4;
        long[] e = (long[]) shelves[s];
        if (2L * n > e.length) return 5;
        if (n > 40) return 6;
        for (int i = 0; i < n; i++) if (!in((int) e[2 * i], 0, 9) || !in((int) e[2 * i + 1], 0, 1)) return 6;
        return 0;
    }

    private List<Integer> fitting(int s, int n, int comer) {
        long[] e = (long[]) shelves[s];
        List<Integer> nerves = new ArrayList<>();
        for (int nerve = 0; nerve <= 30; nerve++) {
            boolean fit = true;
            for (int i = 0; i < n; i++)
                if (slowsWith(w.ones.get(comer), nerve, (int) e[2 * i]) != ((int) e[2 * i + 1] == 1)) fit = false;
            if (fit) nerves.add(nerve);
        }
        return nerves;
    }

    int fits(int s, int n, int comer) {
        int r = notTwos(s, n, comer);
        if (r > 0) return no(r);
        int bits = 0;
        for (int nerve : fitting(s, n, comer)) bits |= 1 << nerve;
        return bits;
    }

    int next(int s, int n, int comer) {
        int r = notTwos(s, n, comer);
        if (r > 0) return no(r) - 10;
        List<Integer> nerves = fitting(s, n, comer);
        if (nerves.size() < 2) return -1;
        int best = -1;
        int least = 100;
        for (int f = 0; f < 10; f++) {
            int yes = 0;
            int not = 0;
            for (int nerve : nerves) {
                if (slowsWith(w.ones.get(comer), nerve, f)) yes++;
                else not++;
            }
            if (Math.max(yes, not) < least) { least = Math.max(yes, not); best = f; }
        }
        return best;
    }

    int leader(int comer) {
        if (!is(comer)) return no(1) - 10;
        One o = w.ones.get(comer);
        int best = -1;
        int last = -1;
        for (int c = 0; c < w.ones.size(); c++) {
            if (c == comer) continue;
            int[] out = run(new int[] {c, comer}, 0);
            int look = slows(o, w.fog, w.ones.get(c), null, out[0] == 1 ? 1 : 0);
            if (look == -1) look = 1000;
            if (look > last) { last = look; best = c; }
        }
        return best;
    }

    int rest(int c) {
        if (c < 2 || c > 999) return no(6);
        return c <= w.toll ? 1000 : 1000 * w.toll / c;
    }

    int painted(int p, int k, int q) {
        if (!in(p, 0, 1000) || !in(q, 0, 1000) || !in(k, 0, 20)) return no(6);
        long a = p * 1000L;
        long b = (1000 - p) * 1000L;
        for (int i = 0; i < k; i++) b = b * q / 1000;
        return a + b == 0 ? 0 : (int) (1000 * a / (a + b));
    }

    // ---- told days

    private int wrong(int s, int n) {
        long[] e = (long[]) shelves[s];
        List<Integer> told = new ArrayList<>();
        for (int i = 0; i < n; i++) {
            int c = whom((int) e[i]);
            if (c == -1 || told.contains(c)) return i;
            told.add(c);
            List<Integer> all = new ArrayList<>(told);
            if (i + 1 < n && whom((int) e[i + 1]) != -1 && !told.contains(whom((int) e[i + 1]))) all.add(whom((int) e[i + 1]));
            int[] order = new int[all.size()];
            for (int j = 0; j < order.length; j++) order[j] = all.get(j);
            if (run(order, 0)[i] != (int) e[i] % 10) return i;
        }
        return -1;
    }

    private int whom(int element) {
        for (int c = 0; c < w.ones.size(); c++) for (int r = 0; r < 3; r++) if (element == 10 * c + r) return c;
        return -1;
    }

    /** As judge, but nothing is refused. */
    int wrongPlace(int s, int n) {
        return notDay(s, n, true) > 0 ? -1 : wrong(s, n);
    }

    int judge(int s, int n) {
        int r = notDay(s, n, true);
        return r > 0 ? no(r) - 10 : wrong(s, n);
    }

    private int count(int s, int n, int which) {
        int many = 0;
        for (int i = 0; i < n; i++) if ((int) ((long[]) shelves[s])[i] % 10 == which) many++;
        return many;
    }

    int behind(int s, int n, int what) {
        int r = notDay(s, n, in(what, 0, 2));
        if (r == 0 && wrong(s, n) != -1) r = 6;
        if (r > 0) return no(r);
        return what == 0 ? w.toll * count(s, n, 1) : what == 1 ? count(s, n, 0) : count(s, n, 2);
    }

    private void pass(int[] order, int[] out) {
        for (int i = 0; i < order.length; i++) {
            One o = w.ones.get(order[i]);
            if (out[i] == 1) {
                o.purse -= w.toll;
                if (o.doubt < 30) o.doubt++;
            }
            if (out[i] == 0) {
                if (o.nerve < 30) o.nerve++;
                if (o.doubt > 0) o.doubt--;
            }
        }
        w.days++;
    }

    int done(int s, int n) {
        int r = notDay(s, n, true);
        if (r == 0 && wrong(s, n) != -1) r = 6;
        if (r > 0) return no(r);
        int[] order = new int[n];
        int[] out = new int[n];
        for (int i = 0; i < n; i++) {
            order[i] = (int) ((long[]) shelves[s])[i] / 10;
            out[i] = (int) ((long[]) shelves[s])[i] % 10;
        }
        pass(order, out);
        return w.days;
    }

    int days(int n) {
        if (w.ones.isEmpty()) return no(5);
        if (n < 1 || n > 60) return no(6);
        int paid = 0;
        for (int i = 0; i < n; i++) {
            w.seed = w.seed * 1103515245 + 12345;
            w.fog = (int) (((w.seed & 0xffffffffL) >> 16) % 10);
            int[] out = run(byNumbers(), 0);
            paid += w.toll * many(out, 1);
            pass(byNumbers(), out);
        }
        return paid;
    }

    int seed(int v) {
        int was = w.seed;
        w.seed = v;
        return was;
    }

    // ---- moves: here the machine's own super finds the bodies

    private class Plain {
        int m, k;
        int walks(int x) { trace.add(10); return x + m; }
        int looks(int x) { trace.add(11); return walks(x) * 2; }
        int stops(int x) { trace.add(12); return looks(x) ^ walks(x - k); }
    }

    private class Blind extends Plain {
        @Override int looks(int x) { trace.add(20); return super.looks(x) + k; }
    }

    private class Led extends Plain {
        @Override int walks(int x) { trace.add(30); return super.walks(x) * 3; }
    }

    private class Thrown extends Led {
        @Override int walks(int x) { trace.add(40); return super.walks(x + 1); }
    }

    private class Doubter extends Plain {
        @Override int stops(int x) { trace.add(50); return -super.stops(x); }
        @Override int walks(int x) { trace.add(51); return super.walks(x) - m; }
    }

    private class Stander extends Doubter {
        @Override int stops(int x) { trace.add(60); return super.stops(x) ^ 5; }
    }

    private class Runner extends Blind {
        @Override int walks(int x) { trace.add(70); return super.walks(x) * 2; }
        @Override int looks(int x) { trace.add(71); return super.looks(x - k); }
    }

    int act(int comer, int move, int x) {
        trace.clear();
        if (!is(comer) || move < 0 || move > 2) return 0;
        Plain[] kinds = {new Plain(), new Blind(), new Led(), new Thrown(), new Doubter(), new Stander(), new Runner()};
        Plain one = kinds[w.ones.get(comer).kind];
        one.m = comer;
        one.k = w.ones.get(comer).a;
        return move == 0 ? one.walks(x) : move == 1 ? one.looks(x) : one.stops(x);
    }

    int trace(int i) { return i < 0 || i >= 20 || i >= trace.size() ? -1 : trace.get(i); }

    int image() {
        kept = w.twin();
        return w.ones.size();
    }

    int restore() {
        if (kept == null) return no(6);
        w = kept.twin();
        for (int s = 0; s < 8; s++)
            if (shelves[s] instanceof Integer && (Integer) shelves[s] >= w.ones.size()) shelves[s] = null;
        return w.ones.size();
    }

    int status(int what) {
        int nerves = 0;
        int purses = 0;
        for (One o : w.ones) {
            nerves += o.nerve;
            purses += o.purse;
        }
        switch (what) {
            case 0: return w.ones.size();
            case 1: return w.way;
            case 2: return w.fog;
            case 3: return w.toll;
            case 4: return w.push;
            case 5: return w.days;
            case 6: return nerves;
            case 7: return purses;
            case 8: return w.seed;
            case 9: return trace.size();
            default: return what >= 11 && what <= 17 ? refusals[what - 10] : -1;
        }
    }
}
