/** Promises 9 to 12, sentence by sentence: the edges of COMERS and of what they and the ROAD are told. */
public final class EdgeRoadTest {
    private static final Due DUE = new Due("EdgeRoadTest");
    private static final int MIN = Integer.MIN_VALUE;
    private static final int MAX = Integer.MAX_VALUE;

    public static void main(String[] args) {
        Suite.run(EdgeRoadTest.class, DUE);
    }

    private static TollForHesitators fresh() {
        return new TollForHesitators();
    }

    /** Makes a COMER of middling values but for one, told by its place among the arguments of comer. */
    private static int made(TollForHesitators x, int place, int v) {
        int[] of = {0, 5, 15, 5, 5, 50};
        of[place] = v;
        return x.comer(of[0], of[1], of[2], of[3], of[4], of[5]);
    }

    /** The least and the most are taken and stand; what is below or above is refused. */
    private static void bounds(int place, int least, int most, int below, int above) {
        // as comerOf tells them: KIND, a, NERVE, PACE, LOAD, PURSE
        TollForHesitators x = fresh();
        DUE.is("below", made(x, place, least - 1), below);
        DUE.is("above", made(x, place, most + 1), above);
        DUE.is("far below", made(x, place, MIN), below);
        DUE.is("far above", made(x, place, MAX), above);
        DUE.is("none is there", x.status(0), 0);
        DUE.is("the least", made(x, place, least), 0);
        DUE.is("it stands", x.comerOf(0, place), least);
        DUE.is("the most", made(x, place, most), 1);
        DUE.is("it stands", x.comerOf(1, place), most);
        DUE.is("refused", x.status(10 - below), 4);
    }

    // ---- 9: comer

    @Promise(value = 9, says = {"each of a KIND: 0 COMER; 1 BLIND, 2 LED, 4 DOUBTER", "3 THROWN, under LED; 5 STANDER",
        "6 RUNNER", "-1 KIND;"})
    private static void kinds() {
        bounds(0, 0, 6, -1, -1);
    }

    @Promise(value = 9, says = {"a (0 to 9)", "-6;", "-6 WRONG: a number that may not be"})
    private static void a() {
        bounds(1, 0, 9, -6, -6);
    }

    @Promise(value = 9, says = "NERVE (0 to 30)")
    private static void nerve() {
        bounds(2, 0, 30, -6, -6);
    }

    @Promise(value = 9, says = "PACE (1 to 9)")
    private static void pace() {
        bounds(3, 1, 9, -6, -6);
    }

    @Promise(value = 9, says = "LOAD (0 to 9)")
    private static void load() {
        bounds(4, 0, 9, -6, -6);
    }

    @Promise(value = 9, says = "PURSE (0 to 999)")
    private static void purse() {
        bounds(5, 0, 999, -6, -6);
    }

    @Promise(value = 9, says = "DOUBT (0 to 30; 0 at first).")
    private static void doubtAtFirst() {
        TollForHesitators x = fresh();
        for (int kind = 0; kind <= 6; kind++) {
            x.comer(kind, 9, 30, 9, 9, 999);
            DUE.is("DOUBT of a KIND", x.comerOf(kind, 6), 0);
        }
    }

    @Promise(value = 9, says = {"COMERS have numbers, from 0 on, 7 at most", "A COMER: the number.", "-7."})
    private static void sevenComersAndNoMore() {
        TollForHesitators x = fresh();
        for (int c = 0; c <= 6; c++) {
            DUE.is("the number", x.comer(6 - c, c, 20 + c, 1 + c, c, 100 * c), c);
            DUE.is("COMERS", x.status(0), c + 1);
        }
        DUE.is("an eighth", x.comer(0, 0, 0, 1, 0, 0), -7);
        DUE.is("COMERS", x.status(0), 7);
        DUE.is("refused -7", x.status(17), 1);
        for (int c = 0; c <= 6; c++) {
            int[] as = {6 - c, c, 20 + c, 1 + c, c, 100 * c, 0};
            for (int what = 0; what <= 6; what++) {
                DUE.is("comerOf(" + c + ", " + what + ")", x.comerOf(c, what), as[what]);
            }
        }
    }

    @Promise(value = 9, says = "-1 KIND; -6; -7.")
    private static void roomIsAskedLast() {
        TollForHesitators x = fresh();
        for (int c = 0; c <= 6; c++) {
            x.comer(0, 0, 0, 1, 0, 0);
        }
        DUE.is("-1 before -6 and -7", x.comer(7, 10, 31, 0, 10, 1000), -1);
        DUE.is("-6 before -7", x.comer(0, 0, 0, 1, 0, 1000), -6);
        DUE.is("-7", x.comer(0, 0, 0, 1, 0, 0), -7);
        x = fresh();
        DUE.is("-1 before -6", x.comer(-1, 10, 0, 1, 0, 0), -1);
    }

    // ---- 10: ask

    /** The last values that are taken on both sides, and the first that are not. */
    private static void asked(int what, int first, int least, int most) {
        TollForHesitators x = fresh();
        DUE.is("what it was", x.ask(what, least), first);
        DUE.is("the least", x.status(1 + what), least);
        DUE.is("below", x.ask(what, least - 1), -6);
        DUE.is("far below", x.ask(what, MIN), -6);
        DUE.is("still the least", x.status(1 + what), least);
        DUE.is("what it was", x.ask(what, most), least);
        DUE.is("the most", x.status(1 + what), most);
        DUE.is("above", x.ask(what, most + 1), -6);
        DUE.is("far above", x.ask(what, MAX), -6);
        DUE.is("still the most", x.status(1 + what), most);
        DUE.is("refused -6", x.status(16), 4);
        DUE.is("the same again", x.ask(what, most), most);
    }

    @Promise(value = 10, says = {"WAY (what 0)", "becomes v: what it was.", "WAY (1 to 20; 8 at first)"})
    private static void way() {
        asked(0, 8, 1, 20);
    }

    @Promise(value = 10, says = {"FOG (1)", "FOG (0 to 9; 0 at first)"})
    private static void fog() {
        asked(1, 0, 0, 9);
    }

    @Promise(value = 10, says = {"TOLL (2)", "TOLL (1 to 99; 5 at first)"})
    private static void toll() {
        asked(2, 5, 1, 99);
    }

    @Promise(value = 10, says = {"PUSH (3)", "PUSH (1 to 99; 1 at first)"})
    private static void push() {
        asked(3, 1, 1, 99);
    }

    @Promise(value = 10, says = "becomes v: what it was. -6.")
    private static void askOfAnother() {
        TollForHesitators x = fresh();
        int[] others = {-1, 4, 5, MIN, MAX};
        for (int what : others) {
            DUE.is("ask(" + what + ", 1)", x.ask(what, 1), -6);
        }
        DUE.is("refused -6", x.status(16), others.length);
        int[] as = {0, 8, 0, 5, 1, 0};
        for (int what = 0; what < as.length; what++) {
            DUE.is("status(" + what + ")", x.status(what), as[what]);
        }
    }

    @Promise(value = 10, says = "WAY (what 0), FOG (1), TOLL (2), PUSH (3) becomes v")
    private static void eachBecomesAlone() {
        int[] first = {8, 0, 5, 1};
        for (int what = 0; what < 4; what++) {
            TollForHesitators x = fresh();
            x.ask(what, 7);
            for (int other = 0; other < 4; other++) {
                DUE.is("status(" + (1 + other) + ")", x.status(1 + other), other == what ? 7 : first[other]);
            }
        }
    }

    // ---- 11: tell

    private static void told(int what, int of, int first, int most) {
        TollForHesitators x = fresh();
        x.comer(0, 0, 1, 1, 0, 2);
        x.comer(0, 0, 15, 1, 0, 500);
        DUE.is("what it was", x.tell(1, what, 0), first);
        DUE.is("the least", x.comerOf(1, of), 0);
        DUE.is("below", x.tell(1, what, -1), -6);
        DUE.is("far below", x.tell(1, what, MIN), -6);
        DUE.is("still the least", x.comerOf(1, of), 0);
        DUE.is("what it was", x.tell(1, what, most), 0);
        DUE.is("the most", x.comerOf(1, of), most);
        DUE.is("above", x.tell(1, what, most + 1), -6);
        DUE.is("far above", x.tell(1, what, MAX), -6);
        DUE.is("still the most", x.comerOf(1, of), most);
        DUE.is("refused -6", x.status(16), 4);
        int[] other = {0, 0, 1, 1, 0, 2, 0};
        int[] own = {0, 0, 15, 1, 0, 500, 0};
        own[of] = most;
        for (int w = 0; w <= 6; w++) {
            DUE.is("the other's", x.comerOf(0, w), other[w]);
            DUE.is("his own", x.comerOf(1, w), own[w]);
        }
    }

    @Promise(value = 11, says = {"NERVE (what 0)", "NERVE (0 to 30)", "-6."})
    private static void tellNerve() {
        told(0, 2, 15, 30);
    }

    @Promise(value = 11, says = {"PURSE (1)", "PURSE (0 to 999)", "of a COMER becomes v: what it was."})
    private static void tellPurse() {
        told(1, 5, 500, 999);
    }

    @Promise(value = 11, says = {"DOUBT (2)", "DOUBT (0 to 30;"})
    private static void tellDoubt() {
        told(2, 6, 0, 30);
    }

    @Promise(value = 11, says = "-1; -6.")
    private static void tellNobody() {
        TollForHesitators x = fresh();
        DUE.is("no COMERS yet", x.tell(0, 0, 1), -1);
        for (int c = 0; c <= 6; c++) {
            x.comer(0, 0, 0, 1, 0, 0);
            DUE.is("the last", x.tell(c, 0, c), 0);
            DUE.is("none behind him", x.tell(c + 1, 0, 1), -1);
        }
        DUE.is("below 0", x.tell(-1, 0, 1), -1);
        DUE.is("far below", x.tell(MIN, 0, 1), -1);
        DUE.is("far above", x.tell(MAX, 0, 1), -1);
        DUE.is("refused -1", x.status(11), 11);
        DUE.is("NERVES together", x.status(6), 21);
    }

    @Promise(value = 11, says = "NERVE (what 0), PURSE (1), DOUBT (2) of a COMER becomes v")
    private static void tellAnother() {
        TollForHesitators x = fresh();
        x.comer(3, 4, 5, 6, 7, 8);
        int[] others = {-1, 3, 4, MIN, MAX};
        for (int what : others) {
            DUE.is("tell(0, " + what + ", 1)", x.tell(0, what, 1), -6);
        }
        DUE.is("-1 before -6", x.tell(1, 3, 31), -1);
        DUE.is("refused -6", x.status(16), others.length);
        int[] as = {3, 4, 5, 6, 7, 8, 0};
        for (int what = 0; what <= 6; what++) {
            DUE.is("comerOf(0, " + what + ")", x.comerOf(0, what), as[what]);
        }
    }

    // ---- 12: comerOf

    @Promise(value = 12, says = "Of a COMER: 0 KIND, 1 a, 2 NERVE, 3 PACE, 4 LOAD, 5 PURSE, 6 DOUBT.")
    private static void comerOfTheFirstAndTheLast() {
        TollForHesitators x = fresh();
        x.comer(6, 9, 30, 8, 7, 999);
        x.tell(0, 2, 29);
        for (int c = 1; c <= 5; c++) {
            x.comer(0, 0, 0, 1, 0, 0);
        }
        x.comer(5, 1, 2, 3, 4, 6);
        int[] first = {6, 9, 30, 8, 7, 999, 29};
        int[] last = {5, 1, 2, 3, 4, 6, 0};
        for (int what = 0; what <= 6; what++) {
            DUE.is("comerOf(0, " + what + ")", x.comerOf(0, what), first[what]);
            DUE.is("comerOf(6, " + what + ")", x.comerOf(6, what), last[what]);
        }
        DUE.is("refused -5", x.status(15), 0);
    }

    @Promise(value = 12, says = {"-5: no such one, another what.", "nothing such to be told of."})
    private static void comerOfNoneSuch() {
        TollForHesitators x = fresh();
        DUE.is("no COMERS yet", x.comerOf(0, 0), -5);
        x.comer(0, 0, 0, 1, 0, 0);
        x.comer(0, 0, 0, 1, 0, 0);
        DUE.is("comerOf(1, 3)", x.comerOf(1, 3), 1);
        DUE.is("comerOf(2, 0)", x.comerOf(2, 0), -5);
        DUE.is("comerOf(-1, 0)", x.comerOf(-1, 0), -5);
        DUE.is("comerOf(MIN, 0)", x.comerOf(MIN, 0), -5);
        DUE.is("comerOf(MAX, 0)", x.comerOf(MAX, 0), -5);
        DUE.is("comerOf(0, -1)", x.comerOf(0, -1), -5);
        DUE.is("comerOf(0, 7)", x.comerOf(0, 7), -5);
        DUE.is("comerOf(0, MIN)", x.comerOf(0, MIN), -5);
        DUE.is("comerOf(0, MAX)", x.comerOf(0, MAX), -5);
        DUE.is("neither", x.comerOf(2, 7), -5);
        DUE.is("refused -5", x.status(15), 10);
        DUE.is("refused -1", x.status(11), 0);
    }
}
