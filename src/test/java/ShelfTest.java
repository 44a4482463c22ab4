/** Promises 1 to 8: a new object and its SHELVES. */
public final class ShelfTest {
    private static final Due DUE = new Due("ShelfTest");

    public static void main(String[] args) {
        Suite.run(ShelfTest.class, DUE);
    }

    @Promise(1)
    private static void newObject() {
        TollForHesitators x = new TollForHesitators();
        int[] first = {0, 8, 0, 5, 1, 0, 0, 0, 1, 0, -1, 0, 0, 0, 0, 0, 0, 0, -1};
        for (int what = 0; what < first.length; what++) {
            DUE.is("new: status(" + what + ")", x.status(what), first[what]);
        }
        for (int s = -1; s <= 8; s++) {
            DUE.is("new: holds(" + s + ")", x.holds(s), -1);
            DUE.is("new: element(" + s + ", 0)", x.element(s, 0), 0);
        }
        DUE.is("new: fault()", x.fault(), -1);
        DUE.is("new: trace(0)", x.trace(0), -1);
        DUE.is("new: restore()", x.restore(), -6);
        DUE.is("new: comerOf(0, 0)", x.comerOf(0, 0), -5);
        DUE.is("new: brave(-1)", x.brave(-1), 0);
        DUE.is("new: best(-1)", x.best(-1), 0);
        DUE.is("new: best(-2)", x.best(-2), 0);
        DUE.is("new: best(0)", x.best(0), -15);
        DUE.is("new: pushes(0)", x.pushes(0), 0);
        DUE.is("new: pushes(1)", x.pushes(1), 0);
        TollForHesitators other = new TollForHesitators();
        x.comer(0, 0, 0, 1, 0, 0);
        x.row(0, 0, 3);
        DUE.is("another object has no COMERS", other.status(0), 0);
        DUE.is("another object holds NOTHING", other.holds(0), -1);
    }

    @Promise(2)
    private static void row() {
        TollForHesitators x = new TollForHesitators();
        for (int sort = 0; sort <= 3; sort++) {
            DUE.is("row of sort " + sort, x.row(sort, sort, sort), 1);
            DUE.is("holds a row of sort " + sort, x.holds(sort), 100 + sort);
        }
        DUE.is("row of 160", x.row(7, 0, 160), 1);
        DUE.is("its last element is there", x.set(7, 159, 5), 1);
        DUE.is("none behind it", x.set(7, 160, 5), -5);
        DUE.is("row anew", x.row(7, 1, 160), 1);
        DUE.is("all is 0 again", x.element(7, 159), 0);
        DUE.is("and of the new sort", x.holds(7), 101);
        x.set(7, 0, 9);
        DUE.is("row of none", x.row(7, 1, 0), 1);
        DUE.is("it has no element", x.set(7, 0, 9), -5);
        DUE.is("it has no element", x.element(7, 0), 0);
        DUE.is("row -1 below", x.row(-1, 0, 0), -1);
        DUE.is("row -1 above", x.row(8, 0, 0), -1);
        DUE.is("row -4", x.row(0, 0, -1), -4);
        DUE.is("row -6 below", x.row(0, -1, 0), -6);
        DUE.is("row -6 above", x.row(0, 4, 0), -6);
        DUE.is("row -7", x.row(0, 0, 161), -7);
        DUE.is("row: -1 first", x.row(8, 4, -1), -1);
        DUE.is("row: -4 before -6", x.row(0, 4, -1), -4);
        DUE.is("row: -6 before -7", x.row(0, 4, 161), -6);
        DUE.is("refused -1", x.status(11), 3);
        DUE.is("refused -4", x.status(14), 2);
        DUE.is("refused -5", x.status(15), 2);
        DUE.is("refused -6", x.status(16), 3);
        DUE.is("refused -7", x.status(17), 1);
        DUE.is("a refused row changes nothing", x.holds(0), 100);
    }

    @Promise(3)
    private static void set() {
        TollForHesitators x = new TollForHesitators();
        long v = 0x7123_4567_89ab_cdefL;
        long[] kept = {(byte) 0xef, (short) 0xcdef, 0x89ab_cdef, v};
        for (int sort = 0; sort <= 3; sort++) {
            x.row(sort, sort, 2);
            DUE.is("set in sort " + sort, x.set(sort, 1, v), 1);
            DUE.is("keeps its lowest bits", x.element(sort, 1), kept[sort]);
            DUE.is("beside it stays 0", x.element(sort, 0), 0);
            x.set(sort, 0, -1L);
            DUE.is("-1 stays -1", x.element(sort, 0), -1);
        }
        x.row(0, 0, 1);
        x.set(0, 0, 128);
        DUE.is("128 as a byte", x.element(0, 0), -128);
        x.row(0, 1, 1);
        x.set(0, 0, 32768);
        DUE.is("32768 as a short", x.element(0, 0), -32768);
        x.row(0, 2, 1);
        x.set(0, 0, 1L << 31);
        DUE.is("2147483648 as an int", x.element(0, 0), Integer.MIN_VALUE);
        x.comer(0, 0, 0, 1, 0, 0);
        x.show(4, 0);
        DUE.is("set -1 below", x.set(-1, 0, 0), -1);
        DUE.is("set -1 above", x.set(8, 0, 0), -1);
        DUE.is("set -2 before -5", x.set(4, -1, 0), -2);
        DUE.is("set -3 before -5", x.set(5, -1, 0), -3);
        DUE.is("set -5 below", x.set(0, -1, 0), -5);
        DUE.is("set -5 above", x.set(0, 1, 0), -5);
        DUE.is("set -5 far above", x.set(0, Integer.MAX_VALUE, 0), -5);
        DUE.is("refused -1", x.status(11), 2);
        DUE.is("refused -2", x.status(12), 1);
        DUE.is("refused -3", x.status(13), 1);
        DUE.is("refused -5", x.status(15), 3);
    }

    @Promise(4)
    private static void copy() {
        TollForHesitators x = new TollForHesitators();
        Due.fill(x, 0, 2, 1, 2, 3, 4, 5);
        x.row(1, 2, 4);
        DUE.is("copy", x.copy(0, 1, 1, 2, 2), 1);
        elements(x, 1, 0, 0, 2, 3);
        elements(x, 0, 1, 2, 3, 4, 5);
        DUE.is("copy upward over itself", x.copy(0, 0, 0, 1, 4), 1);
        elements(x, 0, 1, 1, 2, 3, 4);
        DUE.is("copy downward over itself", x.copy(0, 0, 2, 0, 3), 1);
        elements(x, 0, 2, 3, 4, 3, 4);
        DUE.is("copy of none at the ends", x.copy(0, 1, 5, 4, 0), 1);
        DUE.is("copy of all", x.copy(1, 0, 0, 1, 4), 1);
        elements(x, 0, 2, 0, 0, 2, 3);
        x.comer(0, 0, 0, 1, 0, 0);
        x.show(2, 0);
        x.row(3, 3, 9);
        DUE.is("copy -1 from", x.copy(-1, 2, -1, -1, -1), -1);
        DUE.is("copy -1 to", x.copy(2, 8, -1, -1, -1), -1);
        DUE.is("copy -2 from a COMER", x.copy(2, 4, -1, -1, -1), -2);
        DUE.is("copy -2 to a COMER", x.copy(4, 2, -1, -1, -1), -2);
        DUE.is("copy -2 of two sorts", x.copy(0, 3, -1, -1, -1), -2);
        DUE.is("copy -3 from", x.copy(4, 3, -1, -1, -1), -3);
        DUE.is("copy -3 to", x.copy(3, 4, -1, -1, -1), -3);
        DUE.is("copy -3 both", x.copy(4, 5, -1, -1, -1), -3);
        DUE.is("copy -4", x.copy(0, 1, -1, -1, -1), -4);
        DUE.is("copy -5 i below", x.copy(0, 1, -1, 0, 1), -5);
        DUE.is("copy -5 j below", x.copy(0, 1, 0, -1, 1), -5);
        DUE.is("copy -5 beyond the end of the first", x.copy(0, 1, 4, 0, 2), -5);
        DUE.is("copy -5 beyond the end of the second", x.copy(0, 1, 0, 3, 2), -5);
        DUE.is("copy -5 none, behind the end", x.copy(0, 1, 6, 0, 0), -5);
        DUE.is("copy -5 none, behind the other end", x.copy(0, 1, 0, 5, 0), -5);
        DUE.is("copy -5 huge", x.copy(0, 1, 1, 1, Integer.MAX_VALUE), -5);
        DUE.is("copy -5 huge place", x.copy(0, 1, Integer.MAX_VALUE, 0, Integer.MAX_VALUE), -5);
        elements(x, 1, 0, 0, 2, 3);
        int[] counts = {2, 3, 3, 1, 8, 0, 0};
        for (int i = 0; i < counts.length; i++) {
            DUE.is("refused " + (-1 - i), x.status(11 + i), counts[i]);
        }
    }

    private static void elements(TollForHesitators x, int s, long... due) {
        for (int i = 0; i < due.length; i++) {
            DUE.is("element(" + s + ", " + i + ")", x.element(s, i), due[i]);
        }
    }

    @Promise(5)
    private static void element() {
        TollForHesitators x = new TollForHesitators();
        Due.fill(x, 0, 3, Long.MIN_VALUE, Long.MAX_VALUE);
        DUE.is("element", x.element(0, 0), Long.MIN_VALUE);
        DUE.is("element", x.element(0, 1), Long.MAX_VALUE);
        DUE.is("no element behind", x.element(0, 2), 0);
        DUE.is("no element ahead", x.element(0, -1), 0);
        DUE.is("no shelf", x.element(8, 0), 0);
        DUE.is("no shelf", x.element(-1, 0), 0);
        x.comer(0, 0, 9, 1, 0, 0);
        x.show(0, 0);
        DUE.is("a COMER has no elements", x.element(0, 0), 0);
        x.row(0, 3, 1);
        DUE.is("a new row at the old place", x.element(0, 0), 0);
        x.row(0, 3, 2);
        DUE.is("a longer one", x.element(0, 1), 0);
        for (int what = 11; what <= 17; what++) {
            DUE.is("nothing is refused", x.status(what), 0);
        }
    }

    @Promise({6, 7})
    private static void show() {
        TollForHesitators x = new TollForHesitators();
        DUE.is("show none such", x.show(0, 0), -1);
        x.comer(0, 0, 9, 1, 0, 0);
        x.comer(0, 0, 9, 1, 0, 0);
        DUE.is("show", x.show(0, 1), 1);
        DUE.is("holds it", x.holds(0), 1);
        DUE.is("show over it", x.show(0, 0), 1);
        DUE.is("holds that", x.holds(0), 0);
        DUE.is("none such", x.show(0, 2), -1);
        DUE.is("none such below NONE", x.show(0, -2), -1);
        DUE.is("still holds that", x.holds(0), 0);
        DUE.is("show NOTHING", x.show(0, -1), 0);
        DUE.is("holds NOTHING", x.holds(0), -1);
        x.row(0, 2, 3);
        DUE.is("show over a row", x.show(0, -1), 0);
        DUE.is("holds NOTHING", x.holds(0), -1);
        DUE.is("no shelf", x.show(8, 0), -1);
        DUE.is("no shelf, NOTHING", x.show(-1, -1), -1);
        DUE.is("the same COMER on two shelves", x.show(6, 1) + x.show(7, 1), 2);
        DUE.is("refused -1", x.status(11), 5);
    }

    @Promise(8)
    private static void says() {
        TollForHesitators x = new TollForHesitators();
        for (int kind = 0; kind <= 6; kind++) {
            x.comer(kind, 7, 10 + kind, 2, 3 + kind % 2, 0);
        }
        // what each KIND (a row) says, taken for each (a column); STEP of a STANDER is 2 and a
        int[][] due = {
            {10, -2, -2, -2, -2, -2, -2},
            {11, 4, -2, -2, -2, -2, -2},
            {12, -2, 2, -2, -2, -2, -2},
            {13, -2, 2, 2, -2, -2, -2},
            {14, -2, -2, -2, 2, -2, -2},
            {15, -2, -2, -2, 9, 9, -2},
            {16, 3, -2, -2, -2, -2, 3}
        };
        int others = 0;
        for (int c = 0; c <= 6; c++) {
            x.show(0, c);
            for (int kind = 0; kind <= 6; kind++) {
                DUE.is(c + " says as " + kind, x.says(0, kind), due[c][kind]);
                others += due[c][kind] == -2 ? 1 : 0;
            }
        }
        x.tell(3, 0, 29);
        x.show(0, 3);
        DUE.is("says the new NERVE", x.says(0, 0), 29);
        x.row(1, 2, 1);
        DUE.is("says -1 shelf", x.says(8, 0), -1);
        DUE.is("says -1 shelf below", x.says(-1, 0), -1);
        DUE.is("says -1 kind, before -2", x.says(1, 7), -1);
        DUE.is("says -1 kind, before -3", x.says(2, -1), -1);
        DUE.is("says -2 a row", x.says(1, 0), -2);
        DUE.is("says -3", x.says(2, 0), -3);
        DUE.is("refused -1", x.status(11), 4);
        DUE.is("refused -2", x.status(12), others + 1);
        DUE.is("refused -3", x.status(13), 1);
    }

    @Promise({2, 3, 4, 6})
    private static void refusalsChangeNothing() {
        TollForHesitators x = new TollForHesitators();
        Due.fill(x, 0, 2, 7, 8);
        x.row(0, 0, 161);
        x.row(0, 9, 1);
        x.row(0, 0, -1);
        x.set(0, 2, 1);
        x.copy(0, 0, 0, 1, 2);
        x.show(0, 5);
        DUE.is("the row is as it was", x.holds(0), 102);
        elements(x, 0, 7, 8, 0);
    }
}
