/** Promises 13 and 14, sentence by sentence: the edges of texts that a ROAD is read from. */
public final class EdgeTextTest {
    private static final Due DUE = new Due("EdgeTextTest");
    private static final String WHOLE = "comer 1 2 3 4 5 6;doubt 0 7;way 9;fog 8;toll 7;push 6";
    private static final String ONE = "comer 0 0 0 1 0 0";

    public static void main(String[] args) {
        Suite.run(EdgeTextTest.class, DUE);
    }

    private static TollForHesitators fresh() {
        return new TollForHesitators();
    }

    private static TollForHesitators with(int comers) {
        TollForHesitators x = fresh();
        for (int c = 0; c < comers; c++) {
            x.comer(0, 0, 10 + c, 1, 0, 0);
        }
        return x;
    }

    private static int read(TollForHesitators x, String text) {
        Due.write(x, 0, 0, text);
        return x.road(0);
    }

    private static void stands(TollForHesitators x, String text, int items) {
        DUE.is("road of '" + text + "'", read(x, text), items);
        DUE.is("fault of '" + text + "'", x.fault(), -1);
    }

    private static void faulty(TollForHesitators x, String text, int place) {
        int refused = x.status(16);
        DUE.is("road of '" + text + "'", read(x, text), -6);
        DUE.is("fault of '" + text + "'", x.fault(), place);
        DUE.is("refused -6", x.status(16), refused + 1);
    }

    private static String many(int n, String item) {
        StringBuilder text = new StringBuilder(item);
        for (int i = 1; i < n; i++) {
            text.append(';').append(item);
        }
        return text.toString();
    }

    // ---- 13: the signs

    @Promise(value = 13, says = {"ITEM, then any number of times ; and ITEM:", "A ROAD by the ROW in SHELF s: how many ITEMS."})
    private static void oneItemAndAsManyAsThereCanBe() {
        for (int n = 1; n <= 26; n++) {
            stands(fresh(), many(n, "fog 7"), n);
        }
        // 160 elements: no more fit into a ROW
        String full = "push 3;push 3;push 3;push 3;push 3;" + many(20, "fog 7") + ";fog 07";
        DUE.is("elements", full.length(), 161);
        String most = "push 3;push 3;push 3;push 3;push 3;" + many(20, "fog 7") + ";fog 6";
        DUE.is("elements", most.length(), 160);
        TollForHesitators x = fresh();
        stands(x, most, 26);
        DUE.is("the last ITEM counts", x.status(2), 6);
    }

    @Promise(value = {13, 14}, says = "(the number of elements, if it ends too early)")
    private static void aRowOfNoElements() {
        TollForHesitators x = fresh();
        for (int sort = 0; sort <= 3; sort++) {
            x.row(sort, sort, 0);
            DUE.is("road(" + sort + ")", x.road(sort), -6);
            DUE.is("fault()", x.fault(), 0);
        }
        DUE.is("refused -6", x.status(16), 4);
    }

    @Promise(value = {13, 14}, says = "(the number of elements, if it ends too early)")
    private static void endsTooEarlyAtEachPlace() {
        int items = 0;
        for (int n = 0; n <= WHOLE.length(); n++) {
            if (n == WHOLE.length() || WHOLE.charAt(n) == ';') {
                items++;
                stands(fresh(), WHOLE.substring(0, n), items);
            } else {
                faulty(fresh(), WHOLE.substring(0, n), n);
            }
        }
        DUE.is("ITEMS", items, 6);
    }

    @Promise(value = {13, 14}, says = "The FAULT: the first place at which an element can't stand as such texts go on")
    private static void anotherSignAtEachPlace() {
        for (int i = 0; i < WHOLE.length(); i++) {
            faulty(fresh(), WHOLE.substring(0, i) + '#' + WHOLE.substring(i + 1), i);
            char upper = Character.toUpperCase(WHOLE.charAt(i));
            if (upper != WHOLE.charAt(i)) {
                faulty(fresh(), WHOLE.substring(0, i) + upper + WHOLE.substring(i + 1), i);
            }
        }
        faulty(fresh(), WHOLE + '#', WHOLE.length());
    }

    @Promise(value = {13, 14}, says = "One blank between words and NUMBERS")
    private static void aBlankMoreAtEachPlace() {
        for (int i = 0; i < WHOLE.length(); i++) {
            int due = WHOLE.charAt(i) == ' ' ? i + 1 : i;
            faulty(fresh(), WHOLE.substring(0, i) + ' ' + WHOLE.substring(i), due);
        }
        faulty(fresh(), WHOLE + ' ', WHOLE.length());
    }

    @Promise(value = {13, 14}, says = "One blank between words and NUMBERS")
    private static void noBlank() {
        faulty(fresh(), "way9", 3);
        faulty(fresh(), "comer1 2 3 4 5 6", 5);
        faulty(fresh(), "comer 12 3 4 5 6", 6);
        faulty(fresh(), "comer 1 2 34 5 6", 10);
        faulty(fresh(), "comer 1 2 3 4 5 66;doubt0 7", 24);
        // one NUMBER fewer: the next blank is due where the ITEM ends
        faulty(fresh(), "comer 1 2 30 5 6;way 9", 16);
        faulty(with(1), "doubt 00", 8);
    }

    @Promise(value = {13, 14}, says = "ITEM, then any number of times ; and ITEM:")
    private static void noItemBesideTheSemicolon() {
        faulty(fresh(), ";", 0);
        faulty(fresh(), ";way 9", 0);
        faulty(fresh(), "way 9;", 6);
        faulty(fresh(), "way 9;;way 9", 6);
        faulty(fresh(), "way 9way 9", 5);
        faulty(fresh(), "way 9,way 9", 5);
        faulty(fresh(), "way 9 ;way 9", 5);
        faulty(fresh(), "way 9; way 9", 6);
        stands(fresh(), "way 9;way 9", 2);
    }

    @Promise(value = {13, 14}, says = "The FAULT: the first place at which an element can't stand as such texts go on")
    private static void theFirstOfTwoFaults() {
        faulty(fresh(), "way 21;fog x", 4);
        faulty(fresh(), "wax 21", 2);
        faulty(fresh(), "way 1;fog 7#way 0", 11);
        faulty(fresh(), "comer 7 x", 6);
        faulty(fresh(), "comer 6 10 31 0 10 100", 8);
    }

    // ---- 13: the NUMBERS

    /** Where a NUMBER stands in an ITEM: what is ahead of it, behind it, and which numbers may be. */
    private record Place(String ahead, int least, int most, String behind) {
    }

    private static final Place[] PLACES = {
        new Place("comer ", 0, 6, " 0 0 1 0 0"),
        new Place("comer 0 ", 0, 9, " 0 1 0 0"),
        new Place("comer 0 0 ", 0, 30, " 1 0 0"),
        new Place("comer 0 0 0 ", 1, 9, " 0 0"),
        new Place("comer 0 0 0 1 ", 0, 9, " 0"),
        new Place("comer 0 0 0 1 0 ", 0, 99, ""),
        new Place("doubt ", 0, 1, " 0"),
        new Place("doubt 0 ", 0, 30, ""),
        new Place("way ", 1, 20, ""),
        new Place("fog ", 0, 9, ""),
        new Place("toll ", 1, 99, ""),
        new Place("push ", 1, 99, "")
    };

    @Promise(value = {13, 14}, says = {"of a NUMBER that may not be the place of its first digit", "comer K A N P L M",
        "doubt C N;", "way N;", "fog N;", "toll N;", "push N."})
    private static void eachNumberOfOneAndTwoDigits() {
        for (Place p : PLACES) {
            for (int v = 0; v <= 99; v++) {
                String two = (v < 10 ? "0" : "") + v;
                String[] forms = v < 10 ? new String[] {String.valueOf(v), two} : new String[] {two};
                for (String digits : forms) {
                    if (v >= p.least && v <= p.most) {
                        stands(with(2), p.ahead + digits + p.behind, 1);
                        stands(with(2), p.ahead + digits + p.behind + ";way 1", 2);
                    } else {
                        faulty(with(2), p.ahead + digits + p.behind, p.ahead.length());
                        faulty(with(2), p.ahead + digits + p.behind + ";way 1", p.ahead.length());
                    }
                }
            }
        }
    }

    @Promise(value = {13, 14}, says = "of a NUMBER that may not be the place of its first digit")
    private static void aNumberThatMayNotBeAtTheEnd() {
        for (Place p : PLACES) {
            faulty(with(2), p.ahead, p.ahead.length());
            if (p.least == 1) {
                faulty(with(2), p.ahead + "0", p.ahead.length());
                faulty(with(2), p.ahead + "00", p.ahead.length());
            }
            if (p.most < 99) {
                faulty(with(2), p.ahead + "99", p.ahead.length());
            }
            if (p.behind.length() > 0) {
                faulty(with(2), p.ahead + p.least, p.ahead.length() + 1);
            }
        }
    }

    @Promise(value = {13, 14}, says = "(1 to 2 digits)")
    private static void noDigitAndThree() {
        for (Place p : PLACES) {
            int at = p.ahead.length();
            faulty(with(2), p.ahead + p.behind, at);
            faulty(with(2), p.ahead + "x" + p.behind, at);
            faulty(with(2), p.ahead + "-1" + p.behind, at);
            faulty(with(2), p.ahead + "+1" + p.behind, at);
            faulty(with(2), p.ahead + "/" + p.behind, at);
            faulty(with(2), p.ahead + ":" + p.behind, at);
            faulty(with(2), p.ahead + "1x" + p.behind, at + 1);
            // two digits that may be, and a third that can't stand
            faulty(with(2), p.ahead + "010" + p.behind, at + 2);
            faulty(with(2), p.ahead + "01" + "1" + p.behind, at + 2);
            // two digits that may not be stand ahead of it
            faulty(with(2), p.ahead + "100" + p.behind, p.most >= 10 ? at + 2 : at);
            faulty(with(2), p.ahead + "000" + p.behind, p.least == 0 ? at + 2 : at);
        }
    }

    @Promise(value = 13, says = "comer K A N P L M (NERVE, PACE, LOAD, PURSE, 99 at most)")
    private static void comersOfTheLeastAndTheMost() {
        TollForHesitators x = fresh();
        stands(x, "comer 0 0 0 1 0 0;comer 6 9 30 9 9 99", 2);
        int[][] due = {{0, 0, 0, 1, 0, 0, 0}, {6, 9, 30, 9, 9, 99, 0}};
        for (int c = 0; c < 2; c++) {
            for (int what = 0; what <= 6; what++) {
                DUE.is("comerOf(" + c + ", " + what + ")", x.comerOf(c, what), due[c][what]);
            }
        }
        faulty(fresh(), "comer 6 9 30 9 9 100", 19);
    }

    @Promise(value = 13, says = {"doubt C N;", "way N;", "fog N;", "toll N;", "push N."})
    private static void settingsOfTheLeastAndTheMost() {
        TollForHesitators x = with(7);
        stands(x, "doubt 0 0;doubt 6 30;way 20;fog 9;toll 99;push 99", 6);
        int[] most = {20, 9, 99, 99};
        for (int what = 0; what < 4; what++) {
            DUE.is("status(" + (1 + what) + ")", x.status(1 + what), most[what]);
        }
        DUE.is("DOUBT of the first", x.comerOf(0, 6), 0);
        DUE.is("DOUBT of the last", x.comerOf(6, 6), 30);
        stands(x, "doubt 6 0;doubt 0 30;way 1;fog 0;toll 1;push 1", 6);
        int[] least = {1, 0, 1, 1};
        for (int what = 0; what < 4; what++) {
            DUE.is("status(" + (1 + what) + ")", x.status(1 + what), least[what]);
        }
        DUE.is("DOUBT of the first", x.comerOf(0, 6), 30);
        DUE.is("DOUBT of the last", x.comerOf(6, 6), 0);
    }

    @Promise(value = 13, says = "doubt C N;")
    private static void doubtOfEachWhoIsThere() {
        faulty(fresh(), "doubt 0 1", 6);
        for (int n = 1; n <= 7; n++) {
            TollForHesitators x = with(n);
            stands(x, "doubt " + (n - 1) + " 9", 1);
            DUE.is("DOUBT", x.comerOf(n - 1, 6), 9);
            faulty(x, "doubt " + n + " 9", 6);
        }
    }

    @Promise(value = 13, says = "All is told over what there is, or nothing")
    private static void doubtOfOneToldAhead() {
        TollForHesitators x = with(1);
        stands(x, "comer 1 0 0 1 0 0;doubt 1 4;doubt 0 5", 3);
        DUE.is("DOUBT of the new one", x.comerOf(1, 6), 4);
        DUE.is("DOUBT of the old one", x.comerOf(0, 6), 5);
        faulty(x, "doubt 2 4;comer 1 0 0 1 0 0", 6);
        DUE.is("nobody came", x.status(0), 2);
    }

    // ---- 13: room

    @Promise(value = 13, says = {"COMERS have numbers, from 0 on, 7 at most",
        "(what there is no room for can't stand: its word, once that is whole)"})
    private static void sevenOfOneTextAndNoMore() {
        TollForHesitators x = fresh();
        stands(x, many(7, ONE), 7);
        DUE.is("COMERS", x.status(0), 7);
        faulty(fresh(), many(8, ONE), 7 * 18);
        faulty(fresh(), many(7, ONE) + ";comer", 7 * 18);
        faulty(fresh(), many(7, ONE) + ";come", 7 * 18 + 4);
        for (int there = 1; there <= 7; there++) {
            x = with(there);
            faulty(x, many(8 - there, ONE), 18 * (7 - there));
            DUE.is("nobody came", x.status(0), there);
            if (there < 7) {
                stands(x, many(7 - there, ONE), 7 - there);
                DUE.is("COMERS", x.status(0), 7);
            }
        }
    }

    @Promise(value = {13, 14}, says = {"Whether there is room for a word is asked when its letters stand whole:",
        "until then the first element that is not as it is the FAULT, or the number of elements."})
    private static void noRoomForAWordOnceItIsWhole() {
        String word = "comer";
        for (int n = 0; n < word.length(); n++) {
            faulty(with(7), word.substring(0, n), n);
            faulty(with(7), word.substring(0, n) + "#", n);
            faulty(with(7), "fog 3;" + word.substring(0, n), 6 + n);
            faulty(with(7), "fog 3;" + word.substring(0, n) + "#r 0", 6 + n);
        }
        String[] behind = {"", " ", "#", ";", "x 1", " 7", " 0 0 0 1 0 0", " 0 0 0 1 0 0;"};
        for (String b : behind) {
            faulty(with(7), word + b, 0);
            faulty(with(7), "fog 3;" + word + b, 6);
        }
    }

    @Promise(value = 13, says = "(what there is no room for can't stand: its word, once that is whole)")
    private static void otherWordsNeedNoRoom() {
        TollForHesitators x = with(7);
        stands(x, "doubt 6 1;way 2;fog 3;toll 4;push 5", 5);
        DUE.is("DOUBT", x.comerOf(6, 6), 1);
        DUE.is("PUSH", x.status(4), 5);
    }

    // ---- 13: all or nothing

    @Promise(value = 13, says = {"All is told over what there is, or nothing", "-6 a FAULT.", "a number that may not be, a FAULT,"})
    private static void aFaultAtTheVeryEndLeavesAllAsItWas() {
        TollForHesitators x = with(2);
        x.ask(0, 13);
        x.ask(1, 5);
        x.ask(2, 17);
        x.ask(3, 19);
        x.tell(0, 2, 3);
        long[] as = State.of(x);
        String text = "comer 6 9 30 9 9 99;doubt 0 7;way 9;fog 8;toll 7;push 6";
        faulty(x, text + ";", text.length() + 1);
        long[] now = State.of(x);
        for (int i = 0; i < as.length; i++) {
            if (!State.isOfShelves(i) && i != State.FAULT && i != State.REFUSED + 6) {
                DUE.is("as it was: " + State.name(i), now[i], as[i]);
            }
        }
        stands(x, text, 6);
        int[] told = {3, 9, 8, 7, 6};
        for (int what = 0; what < told.length; what++) {
            DUE.is("status(" + what + ")", x.status(what), told[what]);
        }
    }

    @Promise(value = 13, says = {"way N;", "fog N;", "toll N;", "push N."})
    private static void eachSettingIsToldAlone() {
        String[] words = {"way 7", "fog 7", "toll 7", "push 7"};
        int[] first = {8, 0, 5, 1};
        for (int told = 0; told < 4; told++) {
            TollForHesitators x = with(1);
            stands(x, words[told], 1);
            for (int what = 0; what < 4; what++) {
                DUE.is("after " + words[told] + ": status(" + (1 + what) + ")", x.status(1 + what), what == told ? 7 : first[what]);
            }
        }
    }

    @Promise(value = 13, says = "All is told over what there is, or nothing")
    private static void whatIsNotToldStaysAndTheLaterCounts() {
        TollForHesitators x = with(1);
        x.seed(77);
        x.ask(3, 44);
        stands(x, "way 3;way 4;doubt 0 8;doubt 0 6;toll 2;fog 1;fog 2", 7);
        int[] due = {1, 4, 2, 2, 44, 0, 10, 0, 77};
        for (int what = 0; what < due.length; what++) {
            DUE.is("status(" + what + ")", x.status(what), due[what]);
        }
        DUE.is("DOUBT", x.comerOf(0, 6), 6);
    }

    // ---- 13: elements and SHELVES

    @Promise(value = 13, says = "A ROAD is read from a ROW of letters")
    private static void lettersInEachSort() {
        for (int sort = 0; sort <= 3; sort++) {
            TollForHesitators x = fresh();
            Due.write(x, 0, sort, WHOLE);
            DUE.is("road of sort " + sort, x.road(0), 6);
            DUE.is("PUSH", x.status(4), 6);
        }
    }

    @Promise(value = {13, 14}, says = "The FAULT: the first place at which an element can't stand as such texts go on")
    private static void whatIsNoLetter() {
        // a letter and more bits that a letter has not
        long[][] wrong = {{1, 256}, {2, 256}, {2, 65536}, {2, 1L << 31}, {3, 256}, {3, 65536}, {3, 1L << 31}};
        for (long[] w : wrong) {
            for (int i = 0; i < 5; i++) {
                TollForHesitators x = fresh();
                Due.write(x, 0, (int) w[0], "way 9");
                x.set(0, i, "way 9".charAt(i) + w[1]);
                DUE.is("a letter and " + w[1] + " at " + i, x.road(0), -6);
                DUE.is("fault()", x.fault(), i);
            }
        }
        long[] others = {0, -1, 127, -128};
        for (long o : others) {
            TollForHesitators x = fresh();
            Due.write(x, 0, 0, "way 9");
            x.set(0, 2, o);
            DUE.is("the element " + o, x.road(0), -6);
            DUE.is("fault()", x.fault(), 2);
        }
    }

    @Promise(value = 13, says = "(As ints: of longs the lowest 32 bits.)")
    private static void longsAsInts() {
        TollForHesitators x = fresh();
        Due.write(x, 0, 3, "way 9");
        for (int i = 0; i < 5; i++) {
            x.set(0, i, x.element(0, i) + ((long) (i - 2) << 32));
        }
        DUE.is("road(0)", x.road(0), 1);
        DUE.is("WAY", x.status(1), 9);
    }

    @Promise(value = 13, says = "-1; -2; -3;")
    private static void roadOfNoRow() {
        TollForHesitators x = with(7);
        x.show(1, 0);
        x.show(2, 6);
        int[][] calls = {{-1, -1}, {8, -1}, {Integer.MIN_VALUE, -1}, {Integer.MAX_VALUE, -1}, {1, -2}, {2, -2}, {3, -3}, {7, -3}};
        for (int[] c : calls) {
            DUE.is("road(" + c[0] + ")", x.road(c[0]), c[1]);
            DUE.is("fault()", x.fault(), -1);
        }
        DUE.is("refused -1", x.status(11), 4);
        DUE.is("refused -2", x.status(12), 2);
        DUE.is("refused -3", x.status(13), 2);
        DUE.is("refused -6", x.status(16), 0);
    }

    // ---- 14: fault

    @Promise(value = 14, says = "NONE: there was none, or none yet.")
    private static void noFaultYetAndNoneAfterATextThatStands() {
        TollForHesitators x = fresh();
        DUE.is("none yet", x.fault(), -1);
        DUE.is("none came to a ROW yet", x.road(0), -3);
        DUE.is("none yet", x.fault(), -1);
        faulty(x, "way 0", 4);
        stands(x, "way 1", 1);
        faulty(x, "", 0);
        stands(x, "way 2", 1);
    }

    @Promise(value = 14, says = "The FAULT of the latest road() that came to a ROW;")
    private static void onlyOneThatCameToARowCounts() {
        TollForHesitators x = with(1);
        x.show(1, 0);
        faulty(x, "wax", 2);
        DUE.is("road(1)", x.road(1), -2);
        DUE.is("fault()", x.fault(), 2);
        DUE.is("road(2)", x.road(2), -3);
        DUE.is("fault()", x.fault(), 2);
        DUE.is("road(8)", x.road(8), -1);
        DUE.is("fault()", x.fault(), 2);
        x.row(0, 0, 0);
        x.show(0, -1);
        DUE.is("fault() when the ROW is gone", x.fault(), 2);
        faulty(x, "fog 3;w", 7);
        stands(x, "fog 3", 1);
        DUE.is("road(1)", x.road(1), -2);
        DUE.is("fault()", x.fault(), -1);
    }

    @Promise(value = 14, says = "The FAULT: the first place at which an element can't stand as such texts go on")
    private static void faultAtTheFirstAndTheLastPlace() {
        faulty(fresh(), "#", 0);
        String full = many(26, "fog 7") + ";fog ";
        DUE.is("elements", full.length(), 160);
        faulty(fresh(), full, 160);
        faulty(fresh(), full.substring(0, 159) + "#", 159);
    }
}
