/** All that can be asked of an object without changing it, in some 140 calls. */
final class State {
    /** Where the first of the REFUSALS would stand, less one: -1 is at REFUSED + 1. */
    static final int REFUSED = 9;
    static final int FAULT = 17;
    private static final int TRACE = 18;
    private static final int BODIES = 10;
    private static final int COMERS = TRACE + BODIES;
    private static final int SHELVES = COMERS + 7 * 7;
    private static final int[] PLACES = {0, 1, 2, 3, 4, 5, 159};
    private static final int END = SHELVES + 8 * (1 + PLACES.length);

    private State() {
    }

    /** 0 to 9: status(0) to (9); 10 to 16: REFUSALS -1 to -7. */
    static long[] of(TollForHesitators x) {
        long[] all = new long[END];
        for (int what = 0; what <= 9; what++) {
            all[what] = x.status(what);
        }
        for (int r = 1; r <= 7; r++) {
            all[REFUSED + r] = x.status(10 + r);
        }
        all[FAULT] = x.fault();
        for (int i = 0; i < BODIES; i++) {
            all[TRACE + i] = x.trace(i);
        }
        int count = (int) all[0];
        for (int i = 0; i < 49; i++) {
            // who isn't there isn't asked of: that would be refused
            all[COMERS + i] = i / 7 < count ? x.comerOf(i / 7, i % 7) : -9;
        }
        for (int s = 0; s < 8; s++) {
            int at = SHELVES + s * (1 + PLACES.length);
            all[at] = x.holds(s);
            for (int i = 0; i < PLACES.length; i++) {
                all[at + 1 + i] = x.element(s, PLACES[i]);
            }
        }
        return all;
    }

    static boolean isOfShelves(int i) {
        return i >= SHELVES;
    }

    static String name(int i) {
        if (i <= REFUSED) {
            return "status(" + i + ")";
        }
        if (i <= REFUSED + 7) {
            return "refused -" + (i - REFUSED);
        }
        if (i == FAULT) {
            return "fault()";
        }
        if (i < COMERS) {
            return "trace(" + (i - TRACE) + ")";
        }
        if (i < SHELVES) {
            return "comerOf(" + (i - COMERS) / 7 + ", " + (i - COMERS) % 7 + ")";
        }
        return "SHELF " + (i - SHELVES) / (1 + PLACES.length) + ", " + (i - SHELVES) % (1 + PLACES.length);
    }
}
