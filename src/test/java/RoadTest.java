/** Promises 9 to 14: COMERS, what they and the ROAD are told, ROADS read from texts. */
public final class RoadTest {
    private static final Due DUE = new Due("RoadTest");

    public static void main(String[] args) {
        Suite.run(RoadTest.class, DUE);
    }

    @Promise(9)
    private static void comer() {
        TollForHesitators x = new TollForHesitators();
        DUE.is("kind below", x.comer(-1, 10, 31, 0, 10, 1000), -1);
        DUE.is("kind above", x.comer(7, 0, 0, 1, 0, 0), -1);
        int[][] wrong = {
            {-1, 0, 1, 0, 0}, {10, 0, 1, 0, 0}, {0, -1, 1, 0, 0}, {0, 31, 1, 0, 0}, {0, 0, 0, 0, 0},
            {0, 0, 10, 0, 0}, {0, 0, 1, -1, 0}, {0, 0, 1, 10, 0}, {0, 0, 1, 0, -1}, {0, 0, 1, 0, 1000}
        };
        for (int[] w : wrong) {
            DUE.is("comer -6", x.comer(0, w[0], w[1], w[2], w[3], w[4]), -6);
        }
        DUE.is("none came", x.status(0), 0);
        DUE.is("the least", x.comer(0, 0, 0, 1, 0, 0), 0);
        DUE.is("the most", x.comer(6, 9, 30, 9, 9, 999), 1);
        for (int c = 2; c < 7; c++) {
            DUE.is("the next", x.comer(c - 1, 1, 2, 3, 4, 5), c);
        }
        DUE.is("-6 before -7", x.comer(0, 10, 0, 1, 0, 0), -6);
        DUE.is("-1 before -7", x.comer(7, 0, 0, 1, 0, 0), -1);
        DUE.is("-7", x.comer(0, 0, 0, 1, 0, 0), -7);
        DUE.is("seven", x.status(0), 7);
        DUE.is("NERVES together", x.status(6), 30 + 5 * 2);
        DUE.is("PURSES together", x.status(7), 999 + 5 * 5);
        DUE.is("refused -1", x.status(11), 3);
        DUE.is("refused -6", x.status(16), 11);
        DUE.is("refused -7", x.status(17), 1);
    }

    @Promise(10)
    private static void ask() {
        TollForHesitators x = new TollForHesitators();
        int[] first = {8, 0, 5, 1};
        int[] least = {1, 0, 1, 1};
        int[] most = {20, 9, 99, 99};
        for (int what = 0; what < 4; what++) {
            DUE.is("ask was", x.ask(what, most[what]), first[what]);
            DUE.is("it is", x.status(1 + what), most[what]);
            DUE.is("ask was", x.ask(what, least[what]), most[what]);
            DUE.is("it is", x.status(1 + what), least[what]);
            DUE.is("ask below", x.ask(what, least[what] - 1), -6);
            DUE.is("ask above", x.ask(what, most[what] + 1), -6);
            DUE.is("it is still", x.status(1 + what), least[what]);
        }
        DUE.is("ask another", x.ask(4, 1), -6);
        DUE.is("ask another", x.ask(-1, 1), -6);
        DUE.is("refused -6", x.status(16), 10);
    }

    @Promise(11)
    private static void tell() {
        TollForHesitators x = new TollForHesitators();
        DUE.is("tell nobody", x.tell(0, 3, 0), -1);
        x.comer(0, 0, 12, 1, 0, 34);
        x.comer(0, 0, 1, 1, 0, 2);
        int[] first = {12, 34, 0};
        int[] most = {30, 999, 30};
        int[] of = {2, 5, 6};
        for (int what = 0; what < 3; what++) {
            DUE.is("tell was", x.tell(0, what, most[what]), first[what]);
            DUE.is("it is", x.comerOf(0, of[what]), most[what]);
            DUE.is("tell was", x.tell(0, what, 0), most[what]);
            DUE.is("it is", x.comerOf(0, of[what]), 0);
            DUE.is("tell below", x.tell(0, what, -1), -6);
            DUE.is("tell above", x.tell(0, what, most[what] + 1), -6);
            DUE.is("it is still", x.comerOf(0, of[what]), 0);
        }
        DUE.is("the other has his", x.comerOf(1, 2) * 100 + x.comerOf(1, 5) * 10 + x.comerOf(1, 6), 120);
        DUE.is("tell another", x.tell(0, 3, 0), -6);
        DUE.is("tell another", x.tell(0, -1, 0), -6);
        DUE.is("tell nobody", x.tell(-1, 0, 0), -1);
        DUE.is("tell nobody, -1 first", x.tell(2, 0, 31), -1);
        DUE.is("refused -1", x.status(11), 3);
        DUE.is("refused -6", x.status(16), 8);
    }

    @Promise(12)
    private static void comerOf() {
        TollForHesitators x = new TollForHesitators();
        x.comer(5, 1, 2, 3, 4, 6);
        x.tell(0, 2, 7);
        int[] due = {5, 1, 2, 3, 4, 6, 7};
        for (int what = 0; what < 7; what++) {
            DUE.is("comerOf(0, " + what + ")", x.comerOf(0, what), due[what]);
        }
        DUE.is("another what", x.comerOf(0, 7), -5);
        DUE.is("another what", x.comerOf(0, -1), -5);
        DUE.is("nobody", x.comerOf(1, 0), -5);
        DUE.is("nobody", x.comerOf(-1, 0), -5);
        DUE.is("refused -5", x.status(15), 4);
        for (int kind = 0; kind < 6; kind++) {
            x.comer(kind, 0, 0, 1, 0, 0);
            DUE.is("KIND", x.comerOf(1 + kind, 0), kind);
        }
    }

    private static int read(TollForHesitators x, String text) {
        Due.write(x, 0, 0, text);
        return x.road(0);
    }

    @Promise(13)
    private static void roadStands() {
        TollForHesitators x = new TollForHesitators();
        DUE.is("one ITEM", read(x, "way 20"), 1);
        DUE.is("WAY", x.status(1), 20);
        DUE.is("fault()", x.fault(), -1);
        settings(x, 20, 0, 5, 1);
        read(x, "push 7");
        settings(x, 20, 0, 5, 7);
        read(x, "toll 6");
        settings(x, 20, 0, 6, 7);
        read(x, "fog 3");
        settings(x, 20, 3, 6, 7);
        read(x, "way 2");
        settings(x, 2, 3, 6, 7);
        DUE.is("five ITEMS", read(x, "fog 9;toll 99;push 98;way 01;fog 00"), 5);
        DUE.is("WAY", x.status(1), 1);
        DUE.is("FOG, the later one", x.status(2), 0);
        DUE.is("TOLL", x.status(3), 99);
        DUE.is("PUSH", x.status(4), 98);
        DUE.is("COMERS", read(x, "comer 6 9 30 9 9 99;comer 0 0 0 1 0 0;doubt 1 30;doubt 0 7"), 4);
        int[] due = {6, 9, 30, 9, 9, 99, 7};
        for (int what = 0; what < 7; what++) {
            DUE.is("comerOf(0, " + what + ")", x.comerOf(0, what), due[what]);
        }
        int[] second = {0, 0, 0, 1, 0, 0, 30};
        for (int what = 0; what < 7; what++) {
            DUE.is("comerOf(1, " + what + ")", x.comerOf(1, what), second[what]);
        }
        DUE.is("told over what there is", read(x, "comer 03 02 01 02 01 5;doubt 02 04;doubt 1 3"), 3);
        DUE.is("three", x.status(0), 3);
        DUE.is("KIND", x.comerOf(2, 0), 3);
        DUE.is("DOUBT", x.comerOf(2, 6), 4);
        DUE.is("DOUBT of one who was there", x.comerOf(1, 6), 3);
        DUE.is("the least", read(x, "way 1;fog 0;toll 1;push 1;doubt 0 0;comer 0 0 0 1 0 0"), 6);
        DUE.is("WAY, FOG, TOLL, PUSH", 1000 * x.status(1) + 100 * x.status(2) + 10 * x.status(3) + x.status(4), 1011);
        DUE.is("DOUBT", x.comerOf(0, 6), 0);
        DUE.is("the most", read(x, "way 20;fog 9;toll 99;push 99;doubt 3 30;comer 6 9 30 9 9 99"), 6);
        DUE.is("WAY, FOG", 10 * x.status(1) + x.status(2), 209);
        DUE.is("TOLL, PUSH", 100 * x.status(3) + x.status(4), 9999);
        DUE.is("DOUBT", x.comerOf(3, 6), 30);
        DUE.is("nothing refused", x.status(16), 0);
    }

    private static void settings(TollForHesitators x, int way, int fog, int toll, int push) {
        DUE.is("WAY", x.status(1), way);
        DUE.is("FOG", x.status(2), fog);
        DUE.is("TOLL", x.status(3), toll);
        DUE.is("PUSH", x.status(4), push);
    }

    private static void fault(String text, int place) {
        TollForHesitators x = new TollForHesitators();
        x.comer(0, 0, 10, 1, 0, 0);
        DUE.is("road of '" + text + "'", read(x, text), -6);
        DUE.is("fault of '" + text + "'", x.fault(), place);
        DUE.is("refused '" + text + "'", x.status(16), 1);
    }

    @Promise({13, 14})
    private static void roadFaults() {
        fault("", 0);
        fault("x", 0);
        fault(" way 1", 0);
        fault(";way 1", 0);
        fault("Way 1", 0);
        fault("come", 4);
        fault("w", 1);
        fault("wey 1", 1);
        fault("way", 3);
        fault("way1", 3);
        fault("ways 1", 3);
        fault("way ", 4);
        fault("way  1", 4);
        fault("way x", 4);
        fault("way -1", 4);
        fault("way 0", 4);
        fault("way 00", 4);
        fault("way 0x", 4);
        fault("way 21", 4);
        fault("way 210", 4);
        fault("way 200", 6);
        fault("way 5 ", 5);
        fault("way 5x", 5);
        fault("way 5,", 5);
        fault("way 5;", 6);
        fault("way 5;;", 6);
        fault("way 5; way 5", 6);
        fault("way 5;way", 9);
        fault("way 5;way 0", 10);
        fault("fog 10", 4);
        fault("fog 009", 6);
        fault("toll 0", 5);
        fault("toll 100", 7);
        fault("tolp 1", 3);
        fault("push 0", 5);
        fault("push 99 ", 7);
        fault("pull 1", 2);
        fault("doubt", 5);
        fault("doubt 0", 7);
        fault("doubt 0 ", 8);
        fault("doubt 0;", 7);
        fault("doubt 1 0", 6);
        fault("doubt 0 31", 8);
        fault("doubt 0 301", 10);
        fault("doubt 0 3 1", 9);
        fault("doubd 0 1", 4);
        fault("comer 7", 6);
        fault("comer 7 0 0 1 0 0", 6);
        fault("comer 10 0 0 1 0 0", 6);
        fault("comer 6 10 0 1 0 0", 8);
        fault("comer 6 9 31 1 0 0", 10);
        fault("comer 6 9 30 0 0 0", 13);
        fault("comer 6 9 30 10 0 0", 13);
        fault("comer 6 9 30 9 10 0", 15);
        fault("comer 6 9 30 9 9 100", 19);
        fault("comer 6 9 30 9 9", 16);
        fault("comer 6 9 30 9 9 ", 17);
        fault("comer 6 9 30 9 9 99 1", 19);
        fault("comer 6 9 30 9;9 99", 14);
        fault("comer 0 0 0 1 0 0;doubt 2 1", 24);
    }

    @Promise({13, 14})
    private static void roadRoom() {
        TollForHesitators x = new TollForHesitators();
        for (int c = 0; c < 6; c++) {
            x.comer(0, 0, 0, 1, 0, 0);
        }
        DUE.is("no room for the second", read(x, "comer 0 0 0 1 0 0;comer 0 0 0 1 0 0"), -6);
        DUE.is("its word", x.fault(), 18);
        DUE.is("six still", x.status(0), 6);
        DUE.is("room for one", read(x, "comer 0 0 0 1 0 0"), 1);
        DUE.is("seven", x.status(0), 7);
        DUE.is("no room", read(x, "comer"), -6);
        DUE.is("its word is whole", x.fault(), 0);
        DUE.is("no room", read(x, "way 9;comer x"), -6);
        DUE.is("its word is whole", x.fault(), 6);
        DUE.is("no room", read(x, "way 9;comerx"), -6);
        DUE.is("its letters stand whole", x.fault(), 6);
        DUE.is("not whole", read(x, "way 9;come"), -6);
        DUE.is("the number of elements", x.fault(), 10);
        DUE.is("not whole", read(x, "way 9;comex"), -6);
        DUE.is("the first that is not as it is", x.fault(), 10);
        DUE.is("others have room", read(x, "way 9;doubt 6 9"), 2);
        DUE.is("fault()", x.fault(), -1);
    }

    @Promise(13)
    private static void roadAllOrNothing() {
        TollForHesitators x = new TollForHesitators();
        x.comer(1, 2, 3, 4, 5, 6);
        DUE.is("a FAULT at the end", read(x, "doubt 0 9;way 1;fog 1;toll 1;push 2;comer 0 0 0 1 0 0;x"), -6);
        DUE.is("its place", x.fault(), 54);
        int[] as = {1, 8, 0, 5, 1, 0, 3, 6, 1};
        for (int what = 0; what < as.length; what++) {
            DUE.is("as it was: status(" + what + ")", x.status(what), as[what]);
        }
        DUE.is("as it was: DOUBT", x.comerOf(0, 6), 0);
        DUE.is("the same text without it", read(x, "doubt 0 9;way 1;fog 1;toll 1;push 2;comer 0 0 0 1 0 0"), 6);
        int[] now = {2, 1, 1, 1, 2, 0, 3, 6, 1};
        for (int what = 0; what < now.length; what++) {
            DUE.is("as told: status(" + what + ")", x.status(what), now[what]);
        }
        DUE.is("as told: DOUBT", x.comerOf(0, 6), 9);
    }

    @Promise({13, 14})
    private static void roadRefusals() {
        TollForHesitators x = new TollForHesitators();
        x.comer(0, 0, 0, 1, 0, 0);
        x.show(1, 0);
        DUE.is("road -6", read(x, "way"), -6);
        DUE.is("fault()", x.fault(), 3);
        DUE.is("road -1", x.road(-1), -1);
        DUE.is("road -1", x.road(8), -1);
        DUE.is("road -2", x.road(1), -2);
        DUE.is("road -3", x.road(2), -3);
        DUE.is("the FAULT of the latest that came to a ROW", x.fault(), 3);
        DUE.is("road of none", read(x, ""), -6);
        DUE.is("fault()", x.fault(), 0);
        DUE.is("road stands", read(x, "way 3"), 1);
        DUE.is("fault()", x.fault(), -1);
        DUE.is("refused -1", x.status(11), 2);
        DUE.is("refused -2", x.status(12), 1);
        DUE.is("refused -3", x.status(13), 1);
        DUE.is("refused -6", x.status(16), 2);
    }

    @Promise(13)
    private static void roadSorts() {
        TollForHesitators x = new TollForHesitators();
        for (int sort = 0; sort <= 3; sort++) {
            Due.write(x, 0, sort, "way 1" + sort);
            DUE.is("road of sort " + sort, x.road(0), 1);
            DUE.is("WAY", x.status(1), 10 + sort);
        }
        x = new TollForHesitators();
        Due.fill(x, 0, 3, (7L << 32) + 'w', 'a', 'y', ' ', '6');
        DUE.is("longs as ints", x.road(0), 1);
        DUE.is("WAY", x.status(1), 6);
        StringBuilder full = new StringBuilder("push 10;way 10;way 11;way 12");
        for (int i = 0; i < 22; i++) {
            full.append(";fog 3");
        }
        DUE.is("the whole ROW", full.length(), 160);
        Due.write(x, 1, 0, full.toString());
        DUE.is("as long as it may be", x.road(1), 26);
        x.set(1, 159, ';');
        DUE.is("its last element", x.road(1), -6);
        DUE.is("can't stand", x.fault(), 159);
        x.set(1, 158, ';');
        x.set(1, 159, 'f');
        DUE.is("the one ahead of it", x.road(1), -6);
        DUE.is("can't stand", x.fault(), 158);
    }
}
