/** A gate that opens to all who come on and shuts upon a foot that slows; ../shared/DOC.md says what each call does. */
public final class TollForHesitators {
    public static final int NONE = -1;

    private static final int NOBODY = 1;
    private static final int OTHER = 2;
    private static final int NOTHING = 3;
    private static final int BELOW = 4;
    private static final int BEYOND = 5;
    private static final int WRONG = 6;
    private static final int ROOM = 7;
    // some calls have answers of their own below 0: their refusals stand this much lower
    private static final int LOWER = 10;

    private static final int COMER = 0;
    private static final int BLIND = 1;
    private static final int LED = 2;
    private static final int THROWN = 3;
    private static final int DOUBTER = 4;
    private static final int STANDER = 5;
    private static final int RUNNER = 6;

    private static final int FREELY = 0;
    private static final int PAYS = 1;
    private static final int BACK = 2;

    private static final int MOST_COMERS = 7;
    private static final int MOST_A = 9;
    private static final int MOST_NERVE = 30;
    private static final int MOST_PACE = 9;
    private static final int MOST_LOAD = 9;
    private static final int MOST_PURSE = 999;
    private static final int MOST_DOUBT = 30;
    private static final int MOST_WAY = 20;
    private static final int MOST_FOG = 9;
    private static final int MOST_TOLL = 99;
    private static final int MOST_PUSH = 99;
    private static final int MOST_COST = 99;
    private static final int MOST_PRACTICE = 20;
    private static final int MOST_TWOS = 40;
    private static final int MOST_DAYS = 60;
    private static final int MOST_SHELVES = 8;
    private static final int MOST_ELEMENTS = 160;
    private static final int MOST_TRACE = 20;
    private static final int ROW = 100;
    private static final int LONGS = 3;
    // above all that seven can pay together, so that a sum tells both parts
    private static final int BACK_WEIGHT = 1000;
    private static final int THOUSAND = 1000;

    private final Road road;
    private final Road image;
    private final Road draft;
    private final Shelf[] shelves;
    private final Reader reader;
    private final Order order;
    private final Order trial;
    private final Order found;
    private final Moves moves;
    private final int[] refused;
    private int latestFault;
    private boolean imaged;

    public TollForHesitators() {
        road = new Road();
        image = new Road();
        draft = new Road();
        shelves = new Shelf[MOST_SHELVES];
        for (int s = 0; s < shelves.length; s++) {
            shelves[s] = new Shelf();
        }
        reader = new Reader();
        order = new Order(road);
        trial = new Order(road);
        found = new Order(road);
        moves = new Moves();
        refused = new int[ROOM + 1];
        latestFault = NONE;
    }

    // ---- SHELVES

    public int row(int s, int sort, int n) {
        Shelf shelf = shelfAt(s);
        if (shelf == null) {
            return refuse(NOBODY);
        }
        if (n < 0) {
            return refuse(BELOW);
        }
        if (!within(sort, 0, LONGS)) {
            return refuse(WRONG);
        }
        if (n > MOST_ELEMENTS) {
            return refuse(ROOM);
        }
        shelf.startRow(sort, n);
        return 1;
    }

    public int set(int s, int i, long v) {
        int refusal = rowRefusal(s);
        if (refusal != 0) {
            return refuse(refusal);
        }
        Shelf shelf = shelfAt(s);
        if (shelf == null || !shelf.hasElement(i)) {
            return refuse(BEYOND);
        }
        shelf.put(i, v);
        return 1;
    }

    public int copy(int p, int q, int i, int j, int n) {
        Shelf from = shelfAt(p);
        Shelf to = shelfAt(q);
        if (from == null || to == null) {
            return refuse(NOBODY);
        }
        if (from.isComer() || to.isComer() || (from.isRow() && to.isRow() && from.held != to.held)) {
            return refuse(OTHER);
        }
        if (!from.isRow() || !to.isRow()) {
            return refuse(NOTHING);
        }
        if (n < 0) {
            return refuse(BELOW);
        }
        if (!from.spans(i, n) || !to.spans(j, n)) {
            return refuse(BEYOND);
        }
        System.arraycopy(from.elements, i, to.elements, j, n);
        return 1;
    }

    public long element(int s, int i) {
        Shelf shelf = shelfAt(s);
        return shelf == null ? 0L : shelf.longAt(i);
    }

    public int show(int s, int comer) {
        Shelf shelf = shelfAt(s);
        if (shelf == null || (comer != NONE && !road.has(comer))) {
            return refuse(NOBODY);
        }
        shelf.hold(comer);
        return comer == NONE ? 0 : 1;
    }

    public int holds(int s) {
        Shelf shelf = shelfAt(s);
        return shelf == null ? NONE : shelf.held;
    }

    public int says(int s, int kind) {
        Shelf shelf = shelfAt(s);
        if (shelf == null || !within(kind, COMER, RUNNER)) {
            return refuse(NOBODY);
        }
        if (shelf.isRow()) {
            return refuse(OTHER);
        }
        Comer one = road.at(shelf.held);
        if (one == null) {
            return refuse(NOTHING);
        }
        if (!one.isOf(kind)) {
            return refuse(OTHER);
        }
        switch (kind) {
            case BLIND:
            case RUNNER:
                return one.load;
            case LED:
            case THROWN:
                return one.pace;
            case DOUBTER:
            case STANDER:
                return one.step();
            default:
                return road.nerveOf(shelf.held);
        }
    }

    // ---- THE ROAD

    public int comer(int kind, int a, int nerve, int pace, int load, int purse) {
        if (!within(kind, COMER, RUNNER)) {
            return refuse(NOBODY);
        }
        boolean may = within(a, 0, MOST_A) && within(nerve, 0, MOST_NERVE) && within(pace, 1, MOST_PACE)
                && within(load, 0, MOST_LOAD) && within(purse, 0, MOST_PURSE);
        if (!may) {
            return refuse(WRONG);
        }
        if (road.isFull()) {
            return refuse(ROOM);
        }
        road.add(kind, a, nerve, pace, load, purse);
        return road.count - 1;
    }

    public int ask(int what, int v) {
        int was;
        if (what == 0 && within(v, 1, MOST_WAY)) {
            was = road.way;
            road.way = v;
        } else if (what == 1 && within(v, 0, MOST_FOG)) {
            was = road.fog;
            road.fog = v;
        } else if (what == 2 && within(v, 1, MOST_TOLL)) {
            was = road.toll;
            road.toll = v;
        } else if (what == 3 && within(v, 1, MOST_PUSH)) {
            was = road.push;
            road.push = v;
        } else {
            return refuse(WRONG);
        }
        return was;
    }

    public int tell(int comer, int what, int v) {
        if (!road.has(comer)) {
            return refuse(NOBODY);
        }
        int was;
        if (what == 0 && within(v, 0, MOST_NERVE)) {
            was = road.nerve[comer];
            road.nerve[comer] = v;
        } else if (what == 1 && within(v, 0, MOST_PURSE)) {
            was = road.purse[comer];
            road.purse[comer] = v;
        } else if (what == 2 && within(v, 0, MOST_DOUBT)) {
            was = road.doubt[comer];
            road.doubt[comer] = v;
        } else {
            return refuse(WRONG);
        }
        return was;
    }

    public int comerOf(int comer, int what) {
        Comer one = road.at(comer);
        if (one == null) {
            return refuse(BEYOND);
        }
        switch (what) {
            case 0:
                return one.kind;
            case 1:
                return one.a;
            case 2:
                return road.nerve[comer];
            case 3:
                return one.pace;
            case 4:
                return one.load;
            case 5:
                return road.purse[comer];
            case 6:
                return road.doubt[comer];
            default:
                return refuse(BEYOND);
        }
    }

    public int road(int s) {
        int refusal = rowRefusal(s);
        Shelf text = shelfAt(s);
        if (refusal != 0 || text == null) {
            return refuse(refusal);
        }
        draft.become(road);
        boolean stands = reader.readAll(text, draft);
        latestFault = reader.fault;
        if (!stands) {
            return refuse(WRONG);
        }
        road.become(draft);
        return reader.items;
    }

    public int fault() {
        return latestFault;
    }

    // ---- ONE WHO COMES

    public int looks(int comer, int what) {
        Comer one = road.at(comer);
        if (one == null) {
            return refuse(NOBODY);
        }
        switch (what) {
            case 0:
                return one.looksOn(road.way);
            case 1:
                return one.step();
            case 2:
                return one.burden(road.fog);
            case 3:
                return one.courage(road.nerve[comer], 0, 0);
            default:
                return refuse(BEYOND);
        }
    }

    public int slow(int comer, int fog) {
        if (!road.has(comer)) {
            return refuse(NOBODY) - LOWER;
        }
        if (!within(fog, 0, MOST_FOG)) {
            return refuse(WRONG) - LOWER;
        }
        return road.slowAlone(comer, fog, road.nerve[comer]);
    }

    public int brave(int comer) {
        if (comer == NONE) {
            int bits = 0;
            for (int c = 0; c < road.count; c++) {
                if (road.fogsOf(c, road.nerveOf(c)) == 0) {
                    bits |= 1 << c;
                }
            }
            return bits;
        }
        if (!road.has(comer)) {
            return refuse(NOBODY);
        }
        return road.fogsOf(comer, road.nerve[comer]);
    }

    // ---- WHAT COMES OF IT

    public int order(int s, int n, int what) {
        int refusal = dayRefusal(s, n, within(what, 0, 5));
        Shelf told = shelfAt(s);
        if (refusal != 0 || told == null) {
            return refuse(refusal);
        }
        if (!order.readFrom(told, n)) {
            return refuse(WRONG);
        }
        order.play(0);
        switch (what) {
            case 0:
                return Integer.bitCount(order.free);
            case 1:
                return Integer.bitCount(order.pay);
            case 2:
                return Integer.bitCount(order.back);
            case 3:
                return order.paid();
            case 4:
                return order.pay;
            default:
                return order.back;
        }
    }

    public int best(int i) {
        if (i < -2 || i >= road.count) {
            return refuse(BEYOND) - LOWER;
        }
        Order.findBest(trial, found);
        if (i == -2) {
            return found.weight / BACK_WEIGHT;
        }
        return i == NONE ? found.weight % BACK_WEIGHT : found.memberAt(i);
    }

    public int pushes(int what) {
        if (!within(what, 0, 1)) {
            return refuse(BEYOND);
        }
        order.byNumbers();
        int bits = 0;
        int least = 0;
        for (int pushed = 0; pushed < 1 << road.count; pushed++) {
            order.play(pushed);
            int sum = road.push * Integer.bitCount(pushed) + order.paid()
                    + BACK_WEIGHT * Integer.bitCount(order.back);
            if (pushed == 0 || sum < least) {
                bits = pushed;
                least = sum;
            }
        }
        return what == 0 ? bits : least;
    }

    public int practise(int comer, int c, int what) {
        if (!road.has(comer)) {
            return refuse(NOBODY);
        }
        if (!within(what, 0, 1)) {
            return refuse(BEYOND);
        }
        if (!within(c, 1, MOST_COST)) {
            return refuse(WRONG);
        }
        int times = 0;
        int least = 0;
        for (int n = 0; n <= MOST_PRACTICE; n++) {
            int nerve = Math.min(MOST_NERVE, road.nerve[comer] + n);
            int sum = n * c + road.toll * road.fogsOf(comer, nerve);
            if (n == 0 || sum < least) {
                times = n;
                least = sum;
            }
        }
        return what == 0 ? times : least;
    }

    public int fits(int s, int n, int comer) {
        int refusal = twosRefusal(s, n, comer);
        Shelf twos = shelfAt(s);
        if (refusal != 0 || twos == null) {
            return refuse(refusal);
        }
        return fitting(twos, n, comer);
    }

    public int next(int s, int n, int comer) {
        int refusal = twosRefusal(s, n, comer);
        Shelf twos = shelfAt(s);
        if (refusal != 0 || twos == null) {
            return refuse(refusal) - LOWER;
        }
        int nerves = fitting(twos, n, comer);
        int all = Integer.bitCount(nerves);
        if (all < 2) {
            return NONE;
        }
        int asked = NONE;
        int least = all + 1;
        for (int fog = 0; fog <= MOST_FOG; fog++) {
            int slow = slowAmong(nerves, comer, fog);
            int worst = Math.max(slow, all - slow);
            if (worst < least) {
                asked = fog;
                least = worst;
            }
        }
        return asked;
    }

    public int leader(int comer) {
        if (!road.has(comer)) {
            return refuse(NOBODY) - LOWER;
        }
        int leader = NONE;
        int latest = NONE;
        for (int c = 0; c < road.count; c++) {
            if (c == comer) {
                continue;
            }
            int seen = road.comesTo(c, 0, road.nerveOf(comer), 0) == PAYS ? 1 : 0;
            int look = road.slowAt(comer, road.fog, road.nerveOf(comer), road.nerveOf(c), 0, seen);
            int late = look == NONE ? MOST_WAY + 1 : look;
            if (late > latest) {
                leader = c;
                latest = late;
            }
        }
        return leader;
    }

    public int rest(int c) {
        if (c < 2 || c > 999) {
            return refuse(WRONG);
        }
        return c <= road.toll ? THOUSAND : THOUSAND * road.toll / c;
    }

    public int painted(int p, int k, int q) {
        if (!within(p, 0, THOUSAND) || !within(q, 0, THOUSAND) || !within(k, 0, 20)) {
            return refuse(WRONG);
        }
        long is = (long) p * THOUSAND;
        long isNot = (long) (THOUSAND - p) * THOUSAND;
        for (int i = 0; i < k; i++) {
            isNot = isNot * q / THOUSAND;
        }
        long both = is + isNot;
        return both <= 0L ? 0 : (int) (is * THOUSAND / both);
    }

    // ---- told DAYS and days in truth

    public int judge(int s, int n) {
        int refusal = dayRefusal(s, n, true);
        Shelf told = shelfAt(s);
        if (refusal != 0 || told == null) {
            return refuse(refusal) - LOWER;
        }
        return order.wrongIn(told, n);
    }

    public int behind(int s, int n, int what) {
        int refusal = dayRefusal(s, n, within(what, 0, 2));
        Shelf told = shelfAt(s);
        if (refusal != 0 || told == null) {
            return refuse(refusal);
        }
        if (order.wrongIn(told, n) != NONE) {
            return refuse(WRONG);
        }
        switch (what) {
            case 0:
                return order.paid();
            case 1:
                return Integer.bitCount(order.free);
            default:
                return Integer.bitCount(order.back);
        }
    }

    public int done(int s, int n) {
        int refusal = dayRefusal(s, n, true);
        Shelf told = shelfAt(s);
        if (refusal != 0 || told == null) {
            return refuse(refusal);
        }
        if (order.wrongIn(told, n) != NONE) {
            return refuse(WRONG);
        }
        road.passDay(order.free, order.pay);
        return road.days;
    }

    public int days(int n) {
        if (road.count == 0) {
            return refuse(BEYOND);
        }
        if (!within(n, 1, MOST_DAYS)) {
            return refuse(WRONG);
        }
        order.byNumbers();
        int paid = 0;
        for (int day = 0; day < n; day++) {
            road.fog = road.draw(MOST_FOG + 1);
            order.play(0);
            paid += order.paid();
            road.passDay(order.free, order.pay);
        }
        return paid;
    }

    public int seed(int v) {
        int was = road.seed;
        road.seed = v;
        return was;
    }

    // ---- MOVES, THE IMAGE, STATUS

    public int act(int comer, int move, int x) {
        return moves.start(road.at(comer), move, x);
    }

    public int trace(int i) {
        return moves.keptAt(i);
    }

    public int image() {
        image.become(road);
        imaged = true;
        return image.count;
    }

    public int restore() {
        if (!imaged) {
            return refuse(WRONG);
        }
        road.become(image);
        for (int s = 0; s < shelves.length; s++) {
            Shelf shelf = shelves[s];
            if (shelf != null && shelf.isComer() && !road.has(shelf.held)) {
                shelf.hold(NONE);
            }
        }
        return road.count;
    }

    public int status(int what) {
        switch (what) {
            case 0:
                return road.count;
            case 1:
                return road.way;
            case 2:
                return road.fog;
            case 3:
                return road.toll;
            case 4:
                return road.push;
            case 5:
                return road.days;
            case 6:
                return road.together(road.nerve);
            case 7:
                return road.together(road.purse);
            case 8:
                return road.seed;
            case 9:
                return moves.ran;
            default:
                return within(what, LOWER + NOBODY, LOWER + ROOM) ? refused[what - LOWER] : NONE;
        }
    }

    // ---- REFUSALS

    private int refuse(int refusal) {
        if (refusal >= 0 && refusal < refused.length) {
            refused[refusal]++;
        }
        return -refusal;
    }

    /** Why SHELF s is no ROW, as the number of the refusal; 0 if it is one. */
    private int rowRefusal(int s) {
        Shelf shelf = shelfAt(s);
        if (shelf == null) {
            return NOBODY;
        }
        if (shelf.isComer()) {
            return OTHER;
        }
        return shelf.isRow() ? 0 : NOTHING;
    }

    /** Why no ORDER or DAY can be told by n elements of SHELF s; 0 if one may. */
    private int dayRefusal(int s, int n, boolean whatStands) {
        int refusal = rowRefusal(s);
        Shelf shelf = shelfAt(s);
        if (refusal != 0 || shelf == null) {
            return refusal;
        }
        if (n < 0) {
            return BELOW;
        }
        if (n > shelf.length || !whatStands) {
            return BEYOND;
        }
        return n > MOST_COMERS ? WRONG : 0;
    }

    /** Why no FOGS can be told by n twos of SHELF s; 0 if they may. */
    private int twosRefusal(int s, int n, int comer) {
        Shelf shelf = shelfAt(s);
        if (shelf == null || !road.has(comer)) {
            return NOBODY;
        }
        int refusal = rowRefusal(s);
        if (refusal != 0) {
            return refusal;
        }
        if (n < 0) {
            return BELOW;
        }
        if (!shelf.spans(0, 2L * n)) {
            return BEYOND;
        }
        if (n > MOST_TWOS) {
            return WRONG;
        }
        for (int i = 0; i < n; i++) {
            if (!within(shelf.intAt(2 * i), 0, MOST_FOG) || !within(shelf.intAt(2 * i + 1), 0, 1)) {
                return WRONG;
            }
        }
        return 0;
    }

    // ---- helpers

    private static boolean within(int v, int least, int most) {
        return v >= least && v <= most;
    }

    private Shelf shelfAt(int s) {
        return s < 0 || s >= shelves.length ? null : shelves[s];
    }

    /** The NERVES, as bits, with which all n twos would be as they are told. */
    private int fitting(Shelf twos, int n, int comer) {
        int bits = 0;
        for (int nerve = 0; nerve <= MOST_NERVE; nerve++) {
            boolean fit = true;
            for (int i = 0; i < n && fit; i++) {
                boolean slows = road.slowAlone(comer, twos.intAt(2 * i), nerve) != NONE;
                fit = slows == (twos.intAt(2 * i + 1) == 1);
            }
            if (fit) {
                bits |= 1 << nerve;
            }
        }
        return bits;
    }

    private int slowAmong(int nerves, int comer, int fog) {
        int slow = 0;
        for (int nerve = 0; nerve <= MOST_NERVE; nerve++) {
            if ((nerves >> nerve & 1) != 0 && road.slowAlone(comer, fog, nerve) != NONE) {
                slow++;
            }
        }
        return slow;
    }

    // ---- COMERS by KINDS: what stays of one as it is

    private static final class Comer {
        private static final int[] ABOVE = {NONE, COMER, COMER, LED, COMER, DOUBTER, BLIND};

        final int number;
        final int kind;
        final int a;
        final int pace;
        final int load;

        Comer(int number, int kind, int a, int pace, int load) {
            this.number = number;
            this.kind = kind;
            this.a = a;
            this.pace = pace;
            this.load = load;
        }

        static int above(int kind) {
            return kind < 0 || kind >= ABOVE.length ? NONE : ABOVE[kind];
        }

        /** Whether he is of the KIND, or of one under it. */
        boolean isOf(int wanted) {
            int of = kind;
            for (int up = 0; up < ABOVE.length && of != wanted; up++) {
                of = above(of);
            }
            return of == wanted;
        }

        int looksOn(int way) {
            return kind == RUNNER || pace < 1 ? 1 : (way + pace - 1) / pace;
        }

        int step() {
            switch (kind) {
                case BLIND:
                    return 0;
                case RUNNER:
                    return a;
                case DOUBTER:
                    return 2;
                case STANDER:
                    return 2 + a;
                default:
                    return 1;
            }
        }

        int burden(int fog) {
            return kind == BLIND || kind == RUNNER ? 2 * load : fog + load;
        }

        /** ahead, behind: the NERVES of those just there; 0 for nobody. */
        int courage(int nerve, int ahead, int behind) {
            switch (kind) {
                case LED:
                    return Math.max(nerve, ahead);
                case THROWN:
                    return Math.max(nerve, ahead) + behind / 2;
                default:
                    return nerve;
            }
        }
    }

    // ---- MOVES, and THE TRACE that they leave

    private static final class Moves {
        private static final int WALKS = 0;
        private static final int LOOKS = 1;
        private static final int STOPS = 2;
        private static final int MANY = 3;
        // which body each KIND has of its own to walk, look and stop; 0: none
        private static final int[] BODIES = {
            10, 11, 12,
            0, 20, 0,
            30, 0, 0,
            40, 0, 0,
            51, 0, 50,
            0, 0, 60,
            70, 71, 0
        };
        // a stop goes through six bodies at most
        private static final int DEEPEST = 12;

        final int[] kept = new int[MOST_TRACE];
        int ran = 0;
        private Comer one = null;

        /** The answer of a move; 0, and no TRACE, for nobody or no such move. */
        int start(Comer comer, int move, int x) {
            ran = 0;
            one = comer;
            return comer == null || !within(move, WALKS, STOPS) ? 0 : run(this, comer.kind, move, x, 0);
        }

        /** The body of the KIND from, or of the next one above that has one. */
        private static int run(Moves moves, int from, int move, int x, int depth) {
            Comer one = moves.one;
            int kind = withBody(from, move);
            if (one == null || kind == NONE || depth > DEEPEST) {
                return 0;
            }
            int body = bodyOf(kind, move);
            moves.began(body);
            int up = Comer.above(kind);
            switch (body) {
                case 10:
                    return x + one.number;
                case 11:
                    return run(moves, one.kind, WALKS, x, depth + 1) * 2;
                case 12:
                    int looked = run(moves, one.kind, LOOKS, x, depth + 1);
                    return looked ^ run(moves, one.kind, WALKS, x - one.a, depth + 1);
                case 20:
                    return run(moves, up, LOOKS, x, depth + 1) + one.a;
                case 30:
                    return run(moves, up, WALKS, x, depth + 1) * 3;
                case 40:
                    return run(moves, up, WALKS, x + 1, depth + 1);
                case 50:
                    return -run(moves, up, STOPS, x, depth + 1);
                case 51:
                    return run(moves, up, WALKS, x, depth + 1) - one.number;
                case 60:
                    return run(moves, up, STOPS, x, depth + 1) ^ 5;
                case 70:
                    return run(moves, up, WALKS, x, depth + 1) * 2;
                case 71:
                    return run(moves, up, LOOKS, x - one.a, depth + 1);
                default:
                    return 0;
            }
        }

        private static int withBody(int from, int move) {
            int kind = from;
            for (int up = 0; up < BODIES.length && kind != NONE && bodyOf(kind, move) == 0; up++) {
                kind = Comer.above(kind);
            }
            return kind;
        }

        private static int bodyOf(int kind, int move) {
            int i = MANY * kind + move;
            return i < 0 || i >= BODIES.length ? 0 : BODIES[i];
        }

        private void began(int body) {
            if (ran >= 0 && ran < kept.length) {
                kept[ran] = body;
            }
            ran++;
        }

        int keptAt(int i) {
            return i < 0 || i >= ran || i >= kept.length ? NONE : kept[i];
        }
    }

    // ---- all that an IMAGE keeps

    private static final class Road {
        final Comer[] comers = new Comer[MOST_COMERS];
        final int[] nerve = new int[MOST_COMERS];
        final int[] purse = new int[MOST_COMERS];
        final int[] doubt = new int[MOST_COMERS];
        int count = 0;
        int way = 8;
        int fog = 0;
        int toll = 5;
        int push = 1;
        int days = 0;
        int seed = 1;

        Comer at(int c) {
            return c < 0 || c >= count || c >= comers.length ? null : comers[c];
        }

        boolean has(int c) {
            return at(c) != null;
        }

        boolean isFull() {
            return count >= MOST_COMERS;
        }

        /** The NERVE of one; 0 of nobody. */
        int nerveOf(int c) {
            return has(c) ? nerve[c] : 0;
        }

        void add(int kind, int a, int newNerve, int pace, int load, int newPurse) {
            if (count < 0 || count >= MOST_COMERS) {
                return;
            }
            comers[count] = new Comer(count, kind, a, pace, load);
            nerve[count] = newNerve;
            purse[count] = newPurse;
            doubt[count] = 0;
            count++;
        }

        void become(Road other) {
            for (int c = 0; c < MOST_COMERS; c++) {
                comers[c] = other.comers[c];
                nerve[c] = other.nerve[c];
                purse[c] = other.purse[c];
                doubt[c] = other.doubt[c];
            }
            count = other.count;
            way = other.way;
            fog = other.fog;
            toll = other.toll;
            push = other.push;
            days = other.days;
            seed = other.seed;
        }

        int together(int[] values) {
            int sum = 0;
            for (int c = 0; c < count && c < values.length; c++) {
                sum += values[c];
            }
            return sum;
        }

        /** The look at which one with such a NERVE SLOWS, by the NERVES just ahead and behind; NONE. */
        int slowAt(int c, int inFog, int withNerve, int ahead, int behind, int seen) {
            Comer one = at(c);
            if (one == null) {
                return NONE;
            }
            int room = one.courage(withNerve, ahead, behind) - doubt[c] - seen - one.burden(inFog);
            if (room < 0) {
                return 1;
            }
            int step = one.step();
            if (step <= 0) {
                return NONE;
            }
            int look = room / step + 1;
            return look <= one.looksOn(way) ? look : NONE;
        }

        int slowAlone(int c, int inFog, int withNerve) {
            return slowAt(c, inFog, withNerve, 0, 0, 0);
        }

        int fogsOf(int c, int withNerve) {
            int fogs = 0;
            for (int f = 0; f <= MOST_FOG; f++) {
                if (slowAlone(c, f, withNerve) != NONE) {
                    fogs++;
                }
            }
            return fogs;
        }

        /** What becomes of one: FREELY, PAYS or BACK. */
        int comesTo(int c, int ahead, int behind, int seen) {
            if (!has(c) || slowAt(c, fog, nerve[c], ahead, behind, seen) == NONE) {
                return FREELY;
            }
            return purse[c] >= toll ? PAYS : BACK;
        }

        int weightOf(int outcome) {
            return outcome == FREELY ? 0 : outcome == PAYS ? toll : BACK_WEIGHT;
        }

        void passDay(int free, int pay) {
            for (int c = 0; c < count && c < MOST_COMERS; c++) {
                if ((pay >> c & 1) != 0) {
                    purse[c] -= toll;
                    doubt[c] = Math.min(MOST_DOUBT, doubt[c] + 1);
                } else if ((free >> c & 1) != 0) {
                    nerve[c] = Math.min(MOST_NERVE, nerve[c] + 1);
                    doubt[c] = Math.max(0, doubt[c] - 1);
                }
            }
            days++;
        }

        int draw(int below) {
            seed = seed * 1103515245 + 12345;
            return below <= 0 ? 0 : (seed >>> 16) % below;
        }
    }

    // ---- COMERS one behind the other, and what comes of it

    private static final class Order {
        final Road road;
        final int[] members = new int[MOST_COMERS];
        final int[] least = new int[MOST_COMERS];
        int n = 0;
        int free = 0;
        int pay = 0;
        int back = 0;
        int weight = 0;

        Order(Road road) {
            this.road = road;
        }

        int memberAt(int i) {
            return i < 0 || i >= n || i >= members.length ? NONE : members[i];
        }

        int nerveAt(int i) {
            return road.nerveOf(memberAt(i));
        }

        int paid() {
            return road.toll * Integer.bitCount(pay);
        }

        void byNumbers() {
            n = road.count;
            for (int c = 0; c < n && c < members.length; c++) {
                members[c] = c;
            }
        }

        /** Whether the first elements are COMERS, each at most once; they are the members then. */
        boolean readFrom(Shelf row, int size) {
            n = Math.min(size, MOST_COMERS);
            int there = 0;
            for (int i = 0; i < n; i++) {
                int c = row.intAt(i);
                if (!road.has(c) || (there >> c & 1) != 0) {
                    return false;
                }
                there |= 1 << c;
                members[i] = c;
            }
            return true;
        }

        void play(int pushed) {
            begin();
            for (int i = 0; i < n; i++) {
                int c = memberAt(i);
                if (c == NONE) {
                    continue;
                }
                boolean isPushed = (pushed >> c & 1) != 0;
                count(c, isPushed ? FREELY : road.comesTo(c, nerveAt(i - 1), nerveAt(i + 1), seen()));
            }
        }

        private void begin() {
            free = 0;
            pay = 0;
            back = 0;
        }

        private void count(int c, int outcome) {
            if (outcome == FREELY) {
                free |= 1 << c;
            } else if (outcome == PAYS) {
                pay |= 1 << c;
            } else {
                back |= 1 << c;
            }
        }

        private int seen() {
            return Math.max(0, Integer.bitCount(pay) - Integer.bitCount(free));
        }

        /** The first place at which a told DAY is WRONG; NONE. */
        int wrongIn(Shelf told, int size) {
            begin();
            int there = 0;
            int ahead = NONE;
            for (int i = 0; i < size && i < MOST_COMERS; i++) {
                int c = toldAt(told, i, size, there);
                if (c == NONE) {
                    return i;
                }
                there |= 1 << c;
                int behind = toldAt(told, i + 1, size, there);
                int outcome = road.comesTo(c, road.nerveOf(ahead), road.nerveOf(behind), seen());
                if (outcome != told.intAt(i) % 10) {
                    return i;
                }
                count(c, outcome);
                ahead = c;
            }
            return NONE;
        }

        /** Of whom the i-th element tells; NONE if it tells of nobody, or of one who was there already. */
        private int toldAt(Shelf told, int i, int size, int there) {
            int element = told.intAt(i);
            if (i >= size || element < 0 || element % 10 > BACK) {
                return NONE;
            }
            int c = element / 10;
            return road.has(c) && (there >> c & 1) == 0 ? c : NONE;
        }

        /** found becomes the BEST ORDER of all; trial is changed on the way. */
        static void findBest(Order trial, Order found) {
            trial.byNumbers();
            found.byNumbers();
            found.weight = trial.n == 0 ? 0 : BACK_WEIGHT * (MOST_COMERS + 1);
            int bound = trial.weighLeast();
            for (int c = 0; c < trial.n && bound < found.weight; c++) {
                trial.members[0] = c;
                search(trial, found, 0, 1 << c, 0, bound);
            }
        }

        /** The least that each can come to in any ORDER; all of it together. */
        private int weighLeast() {
            int most = 0;
            for (int c = 0; c < n; c++) {
                most = Math.max(most, road.nerveOf(c));
            }
            int sum = 0;
            for (int c = 0; c < n && c < least.length; c++) {
                least[c] = road.weightOf(road.comesTo(c, most, most, 0));
                sum += least[c];
            }
            return sum;
        }

        /**
         * Goes on behind the member at depth, whose outcome waits for who is behind him; balance: who paid
         * less who went freely; bound: what those ahead weigh and the rest weigh at least.
         */
        private static void search(Order trial, Order found, int depth, int there, int balance, int bound) {
            int c = trial.memberAt(depth);
            if (c < 0 || c >= trial.least.length || depth >= MOST_COMERS) {
                return;
            }
            boolean last = depth == trial.n - 1 || depth + 1 >= trial.members.length;
            int ahead = trial.nerveAt(depth - 1);
            for (int b = 0; b < (last ? 1 : trial.n); b++) {
                if (!last && (there >> b & 1) != 0) {
                    continue;
                }
                int behind = last ? 0 : trial.road.nerveOf(b);
                int outcome = trial.road.comesTo(c, ahead, behind, Math.max(0, balance));
                int weight = bound - trial.least[c] + trial.road.weightOf(outcome);
                if (weight >= found.weight) {
                    continue;
                }
                if (last) {
                    found.keep(trial, weight);
                } else {
                    trial.members[depth + 1] = b;
                    int sight = outcome == PAYS ? 1 : outcome == FREELY ? -1 : 0;
                    search(trial, found, depth + 1, there | 1 << b, balance + sight, weight);
                }
            }
        }

        private void keep(Order other, int itsWeight) {
            for (int i = 0; i < MOST_COMERS; i++) {
                members[i] = other.members[i];
            }
            weight = itsWeight;
        }
    }

    // ---- what a SHELF holds

    private static final class Shelf {
        final long[] elements = new long[MOST_ELEMENTS];
        // NONE, the number of a COMER, or ROW and the SORT
        int held = NONE;
        int length = 0;

        boolean isRow() {
            return held >= ROW;
        }

        boolean isComer() {
            return held >= 0 && held < ROW;
        }

        void hold(int comerOrNone) {
            held = comerOrNone;
            length = 0;
        }

        void startRow(int sort, int n) {
            held = ROW + sort;
            length = Math.max(0, Math.min(n, MOST_ELEMENTS));
            for (int i = 0; i < length; i++) {
                elements[i] = 0L;
            }
        }

        boolean hasElement(int i) {
            return i >= 0 && i < length && i < elements.length;
        }

        boolean spans(int from, long n) {
            return from >= 0 && n >= 0L && from + n <= length;
        }

        void put(int i, long v) {
            if (!hasElement(i)) {
                return;
            }
            switch (held - ROW) {
                case 0:
                    elements[i] = (byte) v;
                    break;
                case 1:
                    elements[i] = (short) v;
                    break;
                case 2:
                    elements[i] = (int) v;
                    break;
                default:
                    elements[i] = v;
            }
        }

        /** The element, 0 if there is none. */
        long longAt(int i) {
            return i < 0 || i >= length || i >= elements.length ? 0L : elements[i];
        }

        int intAt(int i) {
            return (int) longAt(i);
        }
    }

    // ---- ROADS read from texts

    private static final class Reader {
        private static final int[] LEAST_OF_COMER = {0, 0, 0, 1, 0, 0};
        private static final int[] MOST_OF_COMER = {RUNNER, MOST_A, MOST_NERVE, MOST_PACE, MOST_LOAD, 99};

        final int[] numbers = new int[6];
        int fault = NONE;
        int items = 0;
        private long[] letters = new long[0];
        private int length = 0;
        private int at = 0;
        private int number = 0;

        /** Tells the text over a ROAD: whether it stands; else fault is its place, and the ROAD is spoilt. */
        boolean readAll(Shelf row, Road over) {
            letters = row.elements;
            length = row.length;
            at = 0;
            items = 0;
            fault = NONE;
            // each ITEM takes an element at least
            for (int i = 0; i <= MOST_ELEMENTS; i++) {
                if (!item(over)) {
                    return false;
                }
                items++;
                if (at >= length) {
                    return true;
                }
                if (!sign(';')) {
                    return false;
                }
            }
            return fail(at);
        }

        private boolean item(Road over) {
            int start = at;
            int first = letter(start);
            String word = wordFrom(first);
            if (word.isEmpty()) {
                return fail(start);
            }
            for (int i = 0; i < word.length(); i++) {
                if (!sign(word.charAt(i))) {
                    return false;
                }
            }
            switch (first) {
                case 'c':
                    return over.isFull() ? fail(start) : comerItem(over);
                case 'd':
                    return doubtItem(over);
                default:
                    return settingItem(first, over);
            }
        }

        private static String wordFrom(int letter) {
            switch (letter) {
                case 'c':
                    return "comer";
                case 'd':
                    return "doubt";
                case 'w':
                    return "way";
                case 'f':
                    return "fog";
                case 't':
                    return "toll";
                case 'p':
                    return "push";
                default:
                    return "";
            }
        }

        private boolean comerItem(Road over) {
            for (int i = 0; i < numbers.length; i++) {
                if (!numeral(LEAST_OF_COMER[i], MOST_OF_COMER[i])) {
                    return false;
                }
                numbers[i] = number;
            }
            over.add(numbers[0], numbers[1], numbers[2], numbers[3], numbers[4], numbers[5]);
            return true;
        }

        private boolean doubtItem(Road over) {
            if (!numeral(0, over.count - 1)) {
                return false;
            }
            int c = number;
            if (!numeral(0, MOST_DOUBT)) {
                return false;
            }
            if (over.has(c)) {
                over.doubt[c] = number;
            }
            return true;
        }

        private boolean settingItem(int first, Road over) {
            int least = first == 'f' ? 0 : 1;
            if (!numeral(least, mostOf(first))) {
                return false;
            }
            switch (first) {
                case 'w':
                    over.way = number;
                    break;
                case 'f':
                    over.fog = number;
                    break;
                case 't':
                    over.toll = number;
                    break;
                default:
                    over.push = number;
            }
            return true;
        }

        private static int mostOf(int first) {
            switch (first) {
                case 'w':
                    return MOST_WAY;
                case 'f':
                    return MOST_FOG;
                case 't':
                    return MOST_TOLL;
                default:
                    return MOST_PUSH;
            }
        }

        /** A blank and a NUMBER of one or two digits, which may be from least to most. */
        private boolean numeral(int least, int most) {
            if (!sign(' ')) {
                return false;
            }
            int start = at;
            if (!isDigit(letter(start))) {
                return fail(start);
            }
            number = letter(start) - '0';
            at++;
            if (isDigit(letter(at))) {
                number = 10 * number + letter(at) - '0';
                at++;
            }
            return within(number, least, most) || fail(start);
        }

        private static boolean isDigit(int letter) {
            return letter >= '0' && letter <= '9';
        }

        private boolean sign(int due) {
            if (letter(at) != due) {
                return fail(at);
            }
            at++;
            return true;
        }

        /** The element, 0 (which is none of the signs) behind the last. */
        private int letter(int i) {
            return i < 0 || i >= length || i >= letters.length ? 0 : (int) letters[i];
        }

        private boolean fail(int place) {
            fault = place;
            return false;
        }
    }
}
