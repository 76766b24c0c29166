/** The boundary cases of promises 5 to 15, and of the terms that they rest on, sentence by sentence. */
public final class EdgeVoyageTest {
    private static final Due DUE = new Due();
    private static final int[] FAR = {-1, Integer.MIN_VALUE, Integer.MAX_VALUE, 1 << 16, -41};
    private static final String FULL = "port 40 weight 99;" + "port 0;".repeat(5) + "stones 5 20 9;stones 0 19 0;stones 4 1 3;"
        + "plain 8 5;picky 8 0;homesick 8 5;proud 8 5;plain 1 1;";

    public static void main(String[] args) {
        counts();
        statusOfEach();
        mud();
        tolls();
        noSuchPort();
        noSuchStone();
        noSuchShip();
        noSuchWhat();
        places();
        atFirst();
        led();
        been();
        priceAtFirst();
        priceAtLeast();
        priceHighest();
        thirtyVoyages();
        itIsThere();
        cargoAsTold();
        noSuchAhead();
        asManyAsThereAre();
        proudHalf();
        picky();
        homesick();
        allFortyInOneStreet();
        tollOfOne();
        wrapping();
        tests();
        undone();
        noVoyageToUndo();
        noSuchVoyage();
        gaps();
        met();
        horses();
        DUE.end();
    }

    private static void counts() {
        DUE.about("Promise 5: NoSuchElementException: another what");
        CobblePorts x = Due.told(FULL);
        DUE.noSuch("12", () -> x.count(12));
        for (int what : FAR) {
            DUE.noSuch("what " + what, () -> x.count(what));
        }
        CobblePorts empty = new CobblePorts();
        DUE.noSuch("12 of nothing", () -> empty.count(12));
        DUE.noSuch("-1 of nothing", () -> empty.count(-1));
        DUE.about("Promise 5: 0 PORTS, 1 STONES, 2 SHIPS");
        DUE.is("ports", x.count(0), 6);
        DUE.is("stones", x.count(1), 40);
        DUE.is("ships", x.count(2), 5);
    }

    private static void statusOfEach() {
        DUE.about("STATUS: how many calls were refused: 0 TEXTS with a FAULT, 1 VOYAGES, 2 LEGS and what was READ");
        CobblePorts x = Due.told("port 0;port 0;stones 0 1 1;plain 1 0;");
        status(x, 0, 0, 0);
        Due.tell(x, "?");
        status(x, 1, 0, 0);
        x.sail(0, 0, 0);
        status(x, 1, 1, 0);
        for (int i = 0; i < 5; i++) {
            x.leg(0, 0);
        }
        status(x, 1, 1, 1);
        x.read(0, 0, 41);
        status(x, 1, 1, 2);
        Due.outcome(() -> x.sail(1, 0, 0));
        Due.outcome(() -> x.sail(0, 2, 0));
        Due.outcome(() -> x.leg(1, 0));
        Due.outcome(() -> x.leg(0, 2));
        Due.outcome(() -> x.read(2, 0, 41));
        Due.outcome(() -> x.read(0, 2, 41));
        Due.outcome(() -> x.world(-1));
        Due.outcome(() -> x.took(0, 0, 5, 5, 0));
        Due.outcome(() -> x.flood(0, 0, 61));
        x.undo();
        x.best(0);
        for (int i = 0; i < 31; i++) {
            x.feed(0x20202020, 0x20202020, 0x20202020, 0x20202020, 0x20202020);
        }
        status(x, 1, 1, 2);
        Due.outcome(() -> x.world(600));
        status(x, 1, 1, 2);
    }

    private static void status(CobblePorts x, int texts, int voyages, int legs) {
        DUE.is("status 0", x.count(9), texts);
        DUE.is("status 1", x.count(10), voyages);
        DUE.is("status 2", x.count(11), legs);
    }

    private static void mud() {
        DUE.about("MUD of a PORT: NEED less how many STONES lie there, 0 at least");
        CobblePorts x = Due.told("port 40;port 3;port 2;port 1;port 0;port 0;stones 1 2 1;stones 2 2 1;stones 3 2 1;stones 4 1 1;");
        int[] want = {40, 1, 0, 0, 0, 0};
        for (int port = 0; port < 6; port++) {
            DUE.is("mud " + port, x.port(port, 3), want[port]);
        }
        DUE.about("Promise 5: 6 MUD of all PORTS");
        DUE.is("what lies too many takes none of it", x.count(6), 41);
        DUE.is("of six", Due.told("port 40;".repeat(6)).count(6), 240);
        DUE.is("of none", Due.told("").count(6), 0);
    }

    private static void tolls() {
        DUE.about("TOLL: without a TARIFF 0; Promise 5: 7 TOLLS of all VOYAGES");
        CobblePorts x = Due.told("port 0;port 0;stones 0 3 9;plain 2 0;");
        x.sail(0, 1, 0);
        DUE.is("without", x.voyage(0, 5), 0);
        DUE.is("of all, without", x.count(7), 0);
        CobblePorts y = Due.told("port 0;port 0;stones 0 3 9;plain 2 0;tariff 7;");
        DUE.is("of none", y.count(7), 0);
        y.sail(0, 1, 2);
        DUE.is("of one without stones", y.voyage(0, 5), 0);
        y.sail(0, 0, 1);
        DUE.is("of one that had none to take", y.voyage(1, 5), 0);
        y.sail(0, 1, 1);
        y.sail(0, 0, 0);
        y.sail(0, 1, 0);
        DUE.is("of all", y.count(7), 7 + 7 + 14);
        y.undo();
        DUE.is("less the one that is undone", y.count(7), 14);
    }

    private static void noSuchPort() {
        DUE.about("Promise 6: NoSuchElementException: no such PORT (as everywhere)");
        CobblePorts x = Due.told(FULL);
        DUE.is("the last", x.port(5, 0), 0);
        DUE.is("the last's street", x.street(5, 19), 19);
        DUE.is("the last's way", x.horse(5, 5), 10);
        portIsNone(x, 6);
        for (int port : FAR) {
            portIsNone(x, port);
        }
        CobblePorts two = Due.told("port 1;port 1;stones 0 1 1;plain 1 0;");
        portIsNone(two, 2);
        portIsNone(two, 5);
        Due.tell(two, "port 1;stones 0 1 1;plain 1 0;");
        portIsNone(two, 1);
    }

    private static void portIsNone(CobblePorts x, int port) {
        DUE.noSuch("port " + port, () -> x.port(port, 0));
        DUE.noSuch("street " + port, () -> x.street(port, 0));
        DUE.noSuch("sail to " + port, () -> x.sail(0, port, 0));
        DUE.noSuch("gap from " + port, () -> x.gap(port, 0));
        DUE.noSuch("gap to " + port, () -> x.gap(0, port));
        DUE.noSuch("gap of " + port, () -> x.gap(port, port));
        DUE.noSuch("horse over " + port, () -> x.horse(port, 0));
        DUE.noSuch("horse of " + port, () -> x.horse(0, port));
        DUE.noSuch("leg to " + port, () -> x.leg(0, port));
        DUE.noSuch("best for " + port, () -> x.best(port));
        DUE.noSuch("read of " + port, () -> x.read(port, 0, 0));
        DUE.noSuch("read of origin " + port, () -> x.read(0, port, 0));
        DUE.noSuch("took from " + port, () -> x.took(port, 0, 0, 0, 0));
        DUE.noSuch("flood in " + port, () -> x.flood(port, 0, 0));
        DUE.is("no leg, nothing read, nothing refused", x.count(4) + x.count(5) + x.count(10) + x.count(11), 0);
    }

    private static void noSuchStone() {
        DUE.about("Promise 7: NoSuchElementException: no such STONE (as everywhere)");
        CobblePorts x = Due.told(FULL);
        DUE.is("the last", x.stone(39, 0), 4);
        DUE.is("the first met not the last", x.met(0, 39), -1);
        stoneIsNone(x, 40);
        for (int stone : FAR) {
            stoneIsNone(x, stone);
        }
        CobblePorts two = Due.told("port 1;stones 0 2 1;");
        stoneIsNone(two, 2);
        stoneIsNone(two, 39);
        Due.tell(two, "port 1;stones 0 1 1;");
        stoneIsNone(two, 1);
    }

    private static void stoneIsNone(CobblePorts x, int stone) {
        DUE.noSuch("stone " + stone, () -> x.stone(stone, 0));
        DUE.noSuch("met " + stone, () -> x.met(stone, 0));
        DUE.noSuch("met by " + stone, () -> x.met(0, stone));
        DUE.noSuch("met itself " + stone, () -> x.met(stone, stone));
    }

    private static void noSuchShip() {
        DUE.about("Promise 9: NoSuchElementException: no such SHIP (as everywhere)");
        CobblePorts x = Due.told(FULL);
        DUE.is("the last", x.ship(4, 1), 1);
        shipIsNone(x, 5);
        for (int ship : FAR) {
            shipIsNone(x, ship);
        }
        CobblePorts one = Due.told("port 1;port 1;plain 3 1;");
        shipIsNone(one, 1);
        shipIsNone(one, 4);
        Due.tell(one, "port 1;");
        shipIsNone(one, 0);
    }

    private static void shipIsNone(CobblePorts x, int ship) {
        DUE.noSuch("ship " + ship, () -> x.ship(ship, 0));
        DUE.noSuch("sail " + ship, () -> x.sail(ship, 0, 0));
        DUE.noSuch("leg " + ship, () -> x.leg(ship, 0));
        DUE.noSuch("took " + ship, () -> x.took(0, ship, 0, 0, 0));
        DUE.is("nothing refused", x.count(10) + x.count(11), 0);
    }

    private static void noSuchWhat() {
        DUE.about("Promises 6, 7, 9, 12: NoSuchElementException: what");
        CobblePorts x = Due.told(FULL);
        x.sail(0, 0, 0);
        DUE.noSuch("port 6", () -> x.port(0, 6));
        DUE.noSuch("stone 6", () -> x.stone(0, 6));
        DUE.noSuch("ship 4", () -> x.ship(0, 4));
        DUE.noSuch("voyage 6", () -> x.voyage(0, 6));
        for (int what : FAR) {
            DUE.noSuch("port " + what, () -> x.port(0, what));
            DUE.noSuch("stone " + what, () -> x.stone(0, what));
            DUE.noSuch("ship " + what, () -> x.ship(0, what));
            DUE.noSuch("voyage " + what, () -> x.voyage(0, what));
        }
    }

    private static void places() {
        DUE.about("Promise 8: NoSuchElementException: also no such place");
        CobblePorts x = Due.told("port 0;port 0;port 0;stones 0 3 1;stones 1 20 1;stones 1 17 1;plain 2 0;");
        DUE.is("the first", x.street(0, 0), 0);
        DUE.is("the last", x.street(0, 2), 2);
        DUE.noSuch("behind the last", () -> x.street(0, 3));
        DUE.noSuch("in an empty street", () -> x.street(2, 0));
        DUE.is("the last of many", x.street(1, 36), 39);
        DUE.noSuch("behind many", () -> x.street(1, 37));
        DUE.noSuch("far behind them", () -> x.street(1, 40));
        for (int place : FAR) {
            DUE.noSuch("place " + place, () -> x.street(1, place));
            DUE.noSuch("place in an empty street " + place, () -> x.street(2, place));
        }
        x.sail(0, 2, 0);
        DUE.is("what is left", x.street(0, 0), 0);
        DUE.noSuch("where one was taken", () -> x.street(0, 1));
        DUE.is("where they were laid", x.street(2, 1), 1);
        DUE.noSuch("behind them", () -> x.street(2, 2));
        x.undo();
        DUE.noSuch("where they were", () -> x.street(2, 0));
        DUE.is("where they are", x.street(0, 2), 2);
    }

    private static void atFirst() {
        DUE.about("at first each lies in that of its ORIGIN, in the order told");
        CobblePorts x = Due.told("port 0;port 0;stones 1 2 1;stones 0 1 2;stones 1 1 3;stones 0 2 4;plain 5 1;");
        DUE.is("street 0", Due.street(x, 0), "2 4 5");
        DUE.is("street 1", Due.street(x, 1), "0 1 3");
        DUE.is("its home", x.ship(0, 2), 1);
        DUE.is("its port", x.ship(0, 3), 1);
        DUE.about("Promise 6: 5 how many of its own lie there");
        DUE.is("all", x.port(1, 5), 3);
        x.sail(0, 0, 0);
        DUE.is("of the others none is its own", x.port(0, 5), 3);
        DUE.is("none left", x.port(1, 5), 0);
        x.sail(0, 1, 0);
        DUE.is("three came back, two of the others", x.port(1, 5), 3);
        DUE.is("one of its own is left", x.port(0, 5), 1);
    }

    private static void led() {
        DUE.about("LED is a STONE to the last VOYAGE that laid it (NONE)");
        CobblePorts x = Due.told("port 0;port 0;stones 0 2 1;plain 1 0;");
        DUE.is("at first", x.stone(1, 4), -1);
        for (int v = 0; v < 30; v++) {
            x.sail(0, 1 - (v & 1), 0);
            DUE.is("behind voyage " + v, x.stone(1, 4), v);
            DUE.is("never moved " + v, x.stone(0, 4), -1);
        }
        for (int v = 28; v >= 0; v--) {
            x.undo();
            DUE.is("undone to " + v, x.stone(1, 4), v);
        }
        x.undo();
        DUE.is("undone to the first", x.stone(1, 4), -1);
        x.sail(0, 1, 1);
        DUE.is("a voyage that laid none", x.stone(1, 4), -1);
        DUE.about("LED, with STONES of high numbers");
        CobblePorts far = Due.told("port 0;port 0;stones 0 20 1;stones 0 20 1;plain 8 0;");
        far.sail(0, 1, 0);
        DUE.is("39", far.stone(39, 4), 0);
        DUE.is("32", far.stone(32, 4), 0);
        DUE.is("31", far.stone(31, 4), -1);
        DUE.is("0", far.stone(0, 4), -1);
        DUE.is("7", far.stone(7, 4), -1);
    }

    private static void been() {
        DUE.about("It has BEEN in PORTS in which it lay at first, or was laid (bits)");
        CobblePorts x = Due.told("port 0;".repeat(6) + "stones 5 2 1;plain 1 5;plain 2 5;");
        DUE.is("at first", x.stone(1, 5), 32);
        for (int to = 4; to >= 0; to--) {
            x.sail(0, to, 0);
            DUE.is("then", x.stone(1, 5), 64 - (1 << to));
            DUE.is("the other", x.stone(0, 5), 32);
        }
        x.sail(0, 5, 0);
        DUE.is("back at home", x.stone(1, 5), 63);
        for (int to = 0; to <= 4; to++) {
            x.undo();
            DUE.is("undone", x.stone(1, 5), 64 - (1 << to));
        }
        x.undo();
        DUE.is("undone all", x.stone(1, 5), 32);
    }

    private static void priceAtFirst() {
        DUE.about("THE PRICE: 10 at first; behind each VOYAGE 1 more where there is MUD, 1 less where more lie than NEED");
        CobblePorts x = Due.told("port 3;port 1;port 2;stones 0 3 1;stones 2 2 1;plain 2 0;");
        price(x, 10, 10, 10);
        x.sail(0, 1, 1);
        price(x, 11, 10, 10);
        x.sail(0, 0, 1);
        price(x, 11, 11, 10);
        x.sail(0, 2, 0);
        price(x, 12, 12, 9);
        x.sail(0, 0, 2);
        price(x, 13, 13, 8);
        x.sail(0, 0, 0);
        price(x, 13, 13, 8);
        x.flood(2, 1, 1);
        price(x, 13, 13, 8);
    }

    private static void price(CobblePorts x, int... want) {
        for (int port = 0; port < want.length; port++) {
            DUE.is("price " + port, x.port(port, 4), want[port]);
        }
    }

    private static void priceAtLeast() {
        DUE.about("THE PRICE: 1 less (0 at least)");
        CobblePorts x = Due.told("port 1;port 0;port 0;stones 0 2 1;plain 2 0;plain 1 1;");
        for (int i = 1; i <= 12; i++) {
            x.sail(1, i % 2 == 1 ? 2 : 1, 1);
            DUE.is("falls " + i, x.port(0, 4), Math.max(0, 10 - i));
        }
        x.sail(0, 1, 0);
        DUE.is("rises from 0", x.port(0, 4), 1);
        x.sail(0, 0, 2);
        DUE.is("once more", x.port(0, 4), 2);
        x.undo();
        DUE.is("undone", x.port(0, 4), 1);
        x.undo();
        DUE.is("undone to 0", x.port(0, 4), 0);
        x.undo();
        DUE.is("behind eleven", x.port(0, 4), 0);
        x.undo();
        DUE.is("behind ten", x.port(0, 4), 0);
        x.undo();
        DUE.is("behind nine", x.port(0, 4), 1);
    }

    private static void priceHighest() {
        DUE.about("THE PRICE: 1 more (99 at most): thirty VOYAGES make it 40");
        CobblePorts x = Due.told("port 40;port 0;port 0;plain 1 1;");
        for (int i = 1; i <= 30; i++) {
            x.sail(0, i % 2 == 1 ? 2 : 1, 1);
            DUE.is("rises " + i, x.port(0, 4), 10 + i);
        }
        x.sail(0, 2, 1);
        DUE.is("not by one that is refused", x.port(0, 4), 40);
        x.undo();
        x.sail(0, 2, 1);
        x.sail(0, 1, 0);
        DUE.is("undone and made again", x.port(0, 4), 40);
    }

    private static void thirtyVoyages() {
        DUE.about("A VOYAGE (at most 30, numbered from 0 on); Promise 10: NONE (STATUS 1): there are 30");
        CobblePorts x = Due.told("port 0;port 0;stones 0 2 3;plain 1 0;tariff month;");
        for (int i = 0; i < 30; i++) {
            DUE.is("voyage " + i, x.sail(0, 1 - (i & 1), 0), 1);
            DUE.is("its number", x.voyage(i, 5), i);
        }
        String ahead = Due.dump(x);
        DUE.is("one more", x.sail(0, 1, 0), -1);
        DUE.is("and one more", x.sail(0, 1, 1), -1);
        DUE.is("refused", Due.dump(x), ahead.replace("refused 0 ", "refused 2 "));
        x.undo();
        DUE.is("room for one", x.sail(0, 0, 0), 1);
        DUE.is("and no more", x.sail(0, 1, 0), -1);
    }

    private static void itIsThere() {
        DUE.about("Promise 10: NONE (STATUS 1): it is there");
        CobblePorts x = Due.told("port 0;port 0;stones 0 2 3;stones 1 1 1;plain 1 0;");
        String ahead = Due.dump(x);
        DUE.is("at home", x.sail(0, 0, 0), -1);
        DUE.is("refused", Due.dump(x), ahead.replace("refused 0 ", "refused 1 "));
        DUE.is("away", x.sail(0, 1, 0), 1);
        DUE.is("there", x.sail(0, 1, 0), -1);
        DUE.is("home again", x.sail(0, 0, 0), 1);
        x.undo();
        DUE.is("there again", x.sail(0, 1, 0), -1);
        DUE.is("three were refused", x.count(10), 3);
    }

    private static void cargoAsTold() {
        DUE.about("with CARGO (0 to its HOLD); Promise 10: NONE (STATUS 1): CARGO is not as told");
        for (int hold : new int[] {1, 4, 8}) {
            CobblePorts x = Due.told("port 0;port 0;stones 0 9 3;plain " + hold + " 0;");
            String ahead = Due.dump(x);
            DUE.is("below 0", x.sail(0, 1, -1), -1);
            DUE.is("beyond its hold", x.sail(0, 1, hold + 1), -1);
            DUE.is("far below", x.sail(0, 1, Integer.MIN_VALUE), -1);
            DUE.is("far beyond", x.sail(0, 1, Integer.MAX_VALUE), -1);
            DUE.is("refused", Due.dump(x), ahead.replace("refused 0 ", "refused 4 "));
            DUE.is("full: it takes none", x.sail(0, 1, hold), 0);
            DUE.is("it sailed", x.ship(0, 3), 1);
            DUE.is("its cargo", x.voyage(0, 3), hold);
            x.undo();
            DUE.is("one less: it takes one", x.sail(0, 1, hold - 1), 1);
            x.undo();
            DUE.is("none: it takes as many as its hold", x.sail(0, 1, 0), hold);
        }
    }

    private static void noSuchAhead() {
        DUE.about("Promise 10: NoSuchElementException (ahead): no such SHIP, PORT");
        CobblePorts x = Due.told("port 0;port 0;stones 0 2 3;plain 1 0;");
        for (int i = 0; i < 30; i++) {
            x.sail(0, 1 - (i & 1), 0);
        }
        DUE.noSuch("ship, of thirty", () -> x.sail(1, 0, 0));
        DUE.noSuch("port, of thirty", () -> x.sail(0, 2, 0));
        DUE.noSuch("ship, cargo", () -> x.sail(-1, 0, -1));
        DUE.noSuch("port, cargo", () -> x.sail(0, -1, 2));
        DUE.noSuch("both", () -> x.sail(1, 2, 9));
        DUE.is("none is counted", x.count(10), 0);
        DUE.is("none is made", x.count(3), 30);
    }

    private static void asManyAsThereAre() {
        DUE.about("It takes HOLD less CARGO STONES, or as many as there are");
        for (String kind : new String[] {"plain", "picky", "homesick"}) {
            CobblePorts x = Due.told("port 0;port 0;stones 0 3 3;" + kind + " 5 0;");
            DUE.is("three for five", x.sail(0, 1, 0), 3);
            DUE.is("none is left", x.port(0, 2), 0);
            DUE.is("laid", x.voyage(0, 4), 3);
            x.undo();
            DUE.is("three for three", x.sail(0, 1, 2), 3);
            x.undo();
            DUE.is("two of three", x.sail(0, 1, 3), 2);
            x.undo();
            x.sail(0, 1, 0);
            x.sail(0, 0, 5);
            DUE.is("none for five", x.sail(0, 1, 0), 0);
            DUE.is("street", Due.street(x, 1), "2 1 0");
        }
    }

    private static void proudHalf() {
        DUE.about("a proud one half of that, cut down");
        for (int hold = 1; hold <= 8; hold++) {
            CobblePorts x = Due.told("port 0;port 0;stones 0 9 3;proud " + hold + " 0;");
            for (int cargo = 0; cargo <= hold; cargo++) {
                DUE.is("hold " + hold + " cargo " + cargo, x.sail(0, 1, cargo), (hold - cargo) / 2);
                x.undo();
            }
        }
        CobblePorts x = Due.told("port 0;port 0;stones 0 2 3;stones 0 1 1;proud 8 0;");
        DUE.is("half of eight of three", x.sail(0, 1, 0), 3);
        DUE.is("the last first", Due.street(x, 1), "2 1 0");
        x.undo();
        DUE.is("half of four", x.sail(0, 1, 4), 2);
        DUE.is("the last two", Due.street(x, 1), "2 1");
    }

    private static void picky() {
        DUE.about("a picky one the squarest (of like ones the last)");
        CobblePorts x = Due.told("port 0;port 0;stones 0 1 9;stones 0 1 0;stones 0 1 9;stones 0 1 0;stones 0 1 8;picky 5 0;");
        x.sail(0, 1, 0);
        DUE.is("all", Due.street(x, 1), "2 0 4 3 1");
        x.undo();
        x.sail(0, 1, 4);
        DUE.is("one of two like ones", Due.street(x, 1), "2");
        DUE.is("what is left", Due.street(x, 0), "0 1 3 4");
        CobblePorts first = Due.told("port 0;port 0;stones 0 1 9;stones 0 3 0;picky 1 0;");
        first.sail(0, 1, 0);
        DUE.is("the first of the street", Due.street(first, 1), "0");
        first.undo();
        DUE.is("back where it was", Due.street(first, 0), "0 1 2 3");
    }

    private static void homesick() {
        DUE.about("a homesick one the last of those of its HOME, else the last of all");
        String world = "port 0;port 0;port 0;stones 0 3 1;stones 1 3 9;plain 3 1;";
        CobblePorts x = Due.told(world + "homesick 2 0;");
        x.sail(0, 0, 0);
        DUE.is("others lie behind", Due.street(x, 0), "0 1 2 5 4 3");
        x.sail(1, 2, 0);
        DUE.is("the last of its home", Due.street(x, 2), "2 1");
        x.sail(1, 0, 2);
        x.sail(1, 2, 0);
        DUE.is("one of its home, then the last", Due.street(x, 2), "2 1 0 3");
        x.sail(1, 0, 2);
        x.sail(1, 2, 0);
        DUE.is("none of its home", Due.street(x, 2), "2 1 0 3 4 5");
        CobblePorts away = Due.told(world + "homesick 1 2;");
        away.sail(1, 0, 1);
        DUE.is("no stone has its home", away.sail(1, 1, 0), 1);
        DUE.is("the last of all", Due.street(away, 1), "3 4 5 2");
        DUE.about("a homesick one away from its HOME: the ORIGIN counts, not the PORT");
        CobblePorts ahead = Due.told("port 0;port 0;port 0;stones 0 1 1;stones 1 2 1;plain 1 0;plain 2 1;homesick 1 0;");
        ahead.sail(1, 2, 0);
        ahead.sail(0, 1, 0);
        ahead.sail(1, 1, 0);
        DUE.is("one of 0 lies first", Due.street(ahead, 1), "0 1 2");
        ahead.sail(2, 1, 1);
        ahead.sail(2, 0, 0);
        DUE.is("it goes home", Due.street(ahead, 0), "0");
        DUE.is("the others stay", Due.street(ahead, 1), "1 2");
    }

    private static void allFortyInOneStreet() {
        DUE.about("STONES (at most 40): all in one STREET");
        CobblePorts x = Due.told("port 0;port 40;stones 0 20 1;stones 0 20 2;plain 8 0;");
        for (int i = 0; i < 5; i++) {
            DUE.is("eight", x.sail(0, 1, 0), 8);
            x.sail(0, 0, 8);
        }
        DUE.is("all forty", x.port(1, 2), 40);
        DUE.is("no mud", x.port(1, 3), 0);
        DUE.is("the first", x.street(1, 0), 39);
        DUE.is("the last", x.street(1, 39), 0);
        DUE.is("its place", x.stone(0, 3), 39);
        DUE.noSuch("behind it", () -> x.street(1, 40));
        DUE.noSuch("where they lay", () -> x.street(0, 0));
        for (int i = 9; i >= 0; i--) {
            x.undo();
        }
        DUE.is("back", x.port(0, 2), 40);
        for (int place = 0; place < 40; place++) {
            DUE.is("place " + place, x.street(0, place), place);
        }
    }

    private static void tollOfOne() {
        DUE.about("VALUES: 'square', 'origin', 'from', 'to' (PORTS): the least and the most of each");
        for (String value : new String[] {"square", "origin", "from", "to"}) {
            for (int n = 0; n < 6; n++) {
                CobblePorts x = Due.told("port 0;".repeat(6) + "stones " + n + " 1 " + (9 - n) + ";plain 1 " + n + ";tariff " + value + ";");
                int to = (n + 1) % 6;
                int next = (n + 3) % 6;
                x.sail(0, to, 0);
                x.sail(0, next, 0);
                boolean stays = value.equals("square") || value.equals("origin");
                int first = value.equals("square") ? 9 - n : value.equals("to") ? to : n;
                DUE.is(value + " by the voyage 0", x.voyage(0, 5), first);
                DUE.is(value + " by the voyage 1", x.voyage(1, 5), stays ? first : value.equals("to") ? next : to);
            }
        }
        CobblePorts zero = Due.told("port 0;port 0;stones 0 1 0;plain 1 0;tariff square-1;");
        zero.sail(0, 1, 0);
        DUE.is("square 0", zero.voyage(0, 5), -1);
        DUE.about("VALUES: 'many' (how many it lays), 'month' (the VOYAGE's number)");
        CobblePorts x = Due.told("port 0;port 0;stones 0 9 9;plain 8 0;tariff many*100+month;");
        DUE.is("eight", x.sail(0, 1, 0), 8);
        DUE.is("the voyage 0", x.voyage(0, 5), 8 * 800);
        x.sail(0, 0, 7);
        DUE.is("one by the voyage 1", x.voyage(1, 5), 101);
        x.undo();
        x.sail(0, 0, 6);
        DUE.is("undone, two by another voyage 1", x.voyage(1, 5), 402);
    }

    private static void wrapping() {
        DUE.about("ints that wrap, / cut down to 0, by 0 gives 0");
        toll("9999*9999*9999*9999", (int) (9999L * 9999 * 9999 * 9999));
        toll("8192*8192*32", Integer.MIN_VALUE);
        toll("8192*8192*32-1", Integer.MAX_VALUE);
        toll("0-8192*8192*32", Integer.MIN_VALUE);
        toll("8192*8192*32/(0-1)", Integer.MIN_VALUE);
        toll("8192*8192*64", 0);
        toll("8192*8192*32-1+1", Integer.MIN_VALUE);
        toll("7/2", 3);
        toll("(0-7)/2", -3);
        toll("7/(0-2)", -3);
        toll("(0-7)/(0-2)", 3);
        toll("(0-1)/2", 0);
        toll("5/0", 0);
        toll("(0-5)/0", 0);
        toll("0/0", 0);
        toll("8192*8192*32/0", 0);
        toll("5/(3-3)*7+1", 1);
        DUE.about("From the left");
        toll("9-3-2", 4);
        toll("9-3+2", 8);
        toll("100/5/2", 10);
        toll("7/2*2", 6);
        toll("2*7/4", 3);
        toll("1-2*3-4", -9);
        DUE.about("TOLL: together, an int that wraps");
        CobblePorts x = Due.told("port 0;port 0;stones 0 2 1;plain 2 0;tariff 8192*8192*32;");
        x.sail(0, 1, 0);
        DUE.is("twice the least", x.voyage(0, 5), 0);
        x.sail(0, 0, 1);
        x.sail(0, 1, 1);
        x.sail(0, 0, 1);
        DUE.is("of all", x.count(7), Integer.MIN_VALUE);
    }

    private static void tests() {
        DUE.about("tests, not, and, or are 1 or 0 (what isn't 0 holds)");
        toll("(0-1)<0", 1);
        toll("0<(0-1)", 0);
        toll("0<0", 0);
        toll("8192*8192*32<0", 1);
        toll("8192*8192*32<8192*8192*32-1", 1);
        toll("8192*8192*32-1<8192*8192*32", 0);
        toll("8192*8192*32=0-8192*8192*32", 1);
        toll("not (0-1)", 0);
        toll("not 0", 1);
        toll("not 2", 0);
        toll("(0-1) and 2", 1);
        toll("2 and 4", 1);
        toll("4 or 2", 1);
        toll("0 or (0-3)", 1);
        toll("0 or 0", 0);
        toll("0 and 0", 0);
        toll("not not 7", 1);
        toll("not not not not not not 0", 0);
        toll("(3<4)+(4=4)+(not 0)+(5 and 5)+(6 or 6)", 5);
        toll("not 3<4", 0);
        toll("not 4<3", 1);
        toll("not 0 and 0", 0);
        toll("not 1 or 1", 1);
        toll("1 or 1 and 0", 1);
        toll("0 and 1 or 1", 1);
    }

    private static void toll(String expr, int want) {
        CobblePorts x = Due.told("port 0;port 0;stones 0 1 6;plain 1 0;tariff " + expr + ";");
        x.sail(0, 1, 0);
        DUE.is(expr, x.voyage(0, 5), want);
    }

    private static void undone() {
        DUE.about("Promise 11: The last VOYAGE is UNDONE: how many are left; VOYAGES are UNDONE, the last one first");
        int[][] voyages = {{0, 1, 0}, {1, 0, 0}, {2, 0, 4}, {0, 2, 1}, {1, 2, 0}, {2, 1, 0}, {0, 0, 0}, {1, 1, 2}};
        for (int left = voyages.length - 1; left >= 0; left--) {
            CobblePorts x = sailed(voyages, voyages.length);
            for (int i = voyages.length - 1; i >= left; i--) {
                DUE.is("left", x.undo(), i);
            }
            DUE.is("as behind " + left, Due.dump(x), Due.dump(sailed(voyages, left)));
        }
    }

    private static CobblePorts sailed(int[][] voyages, int many) {
        CobblePorts x = Due.told("port 2;port 1;port 0;stones 0 3 1;stones 0 1 9;stones 1 1 9;picky 2 0;homesick 2 1;proud 4 2;tariff square+month;");
        for (int i = 0; i < many; i++) {
            DUE.is("it sails", x.sail(voyages[i][0], voyages[i][1], voyages[i][2]) >= 0 ? 1 : 0, 1);
        }
        return x;
    }

    private static void noVoyageToUndo() {
        DUE.about("Promise 11: NONE: there is none that can be");
        CobblePorts x = Due.told("port 2;port 1;stones 0 3 1;plain 1 0;");
        String ahead = Due.dump(x);
        DUE.is("of none", x.undo(), -1);
        DUE.is("nothing changes", Due.dump(x), ahead);
        x.sail(0, 1, 0);
        DUE.is("of one", x.undo(), 0);
        DUE.is("of none again", x.undo(), -1);
        DUE.is("nothing changed", Due.dump(x), ahead);
    }

    private static void noSuchVoyage() {
        DUE.about("Promise 12: NoSuchElementException: no such VOYAGE");
        CobblePorts x = Due.told("port 2;port 1;stones 0 3 1;plain 1 0;");
        DUE.noSuch("of none", () -> x.voyage(0, 0));
        x.sail(0, 1, 0);
        DUE.is("the first", x.voyage(0, 2), 1);
        DUE.noSuch("the second", () -> x.voyage(1, 0));
        for (int voyage : FAR) {
            DUE.noSuch("voyage " + voyage, () -> x.voyage(voyage, 0));
        }
        x.undo();
        DUE.noSuch("the undone one", () -> x.voyage(0, 0));
        for (int i = 0; i < 30; i++) {
            x.sail(0, 1 - (i & 1), 0);
        }
        DUE.is("the thirtieth", x.voyage(29, 1), 1);
        DUE.noSuch("behind it", () -> x.voyage(30, 0));
    }

    private static void gaps() {
        DUE.about("GAP: how many STONES were laid in the second one by VOYAGES from the first, less those the other way");
        CobblePorts x = Due.told("port 0;port 0;port 0;stones 0 9 1;plain 3 0;plain 2 1;plain 8 0;");
        DUE.is("of none", x.gap(0, 1), 0);
        x.sail(0, 1, 0);
        DUE.is("three", x.gap(0, 1), 3);
        DUE.is("less than 0", x.gap(1, 0), -3);
        x.sail(0, 0, 3);
        DUE.is("a voyage that laid none", x.gap(0, 1), 3);
        x.sail(0, 1, 1);
        DUE.is("two more", x.gap(0, 1), 5);
        x.sail(1, 0, 0);
        DUE.is("two back", x.gap(0, 1), 3);
        x.sail(2, 2, 7);
        DUE.is("elsewhere", x.gap(0, 1), 3);
        DUE.is("one there", x.gap(0, 2), 1);
        x.sail(2, 1, 7);
        DUE.is("by another way", x.gap(0, 1), 3);
        DUE.is("a port and itself", x.gap(1, 1), 0);
        x.undo();
        x.undo();
        x.undo();
        DUE.is("undone", x.gap(0, 1), 5);
    }

    private static void met() {
        DUE.about("Promise 14: the number of VOYAGES by then (0: at first); NONE: not yet, or both are one");
        CobblePorts x = Due.told("port 0;port 0;stones 0 1 1;stones 1 2 1;plain 1 0;plain 1 1;");
        DUE.is("at first", x.met(1, 2), 0);
        DUE.is("not yet", x.met(0, 2), -1);
        DUE.is("one", x.met(2, 2), -1);
        DUE.is("one that met", x.met(1, 1), -1);
        for (int i = 0; i < 28; i++) {
            x.sail(0, 1 - (i & 1), 1);
        }
        DUE.is("not yet behind 28", x.met(0, 2), -1);
        x.sail(1, 0, 1);
        DUE.is("not yet behind 29", x.met(0, 2), -1);
        x.sail(0, 1, 0);
        DUE.is("behind 30", x.met(0, 2), 30);
        DUE.is("the other way", x.met(2, 0), 30);
        DUE.is("the other one too", x.met(0, 1), 30);
        DUE.is("at first still", x.met(2, 1), 0);
        x.undo();
        DUE.is("undone", x.met(0, 2), -1);
        CobblePorts parted = Due.told("port 0;port 0;port 0;stones 0 1 1;stones 1 1 1;plain 1 0;plain 1 1;");
        parted.sail(0, 1, 0);
        parted.sail(1, 2, 0);
        DUE.is("they parted", parted.stone(0, 2) + parted.stone(1, 2), 3);
        DUE.is("they met ahead", parted.met(1, 0), 1);
        CobblePorts far = Due.told("port 0;port 0;stones 0 20 1;stones 0 13 1;stones 1 1 1;plain 1 0;");
        far.sail(0, 1, 0);
        DUE.is("33 meets 32", far.met(33, 32), 1);
        DUE.is("33 hasn't met 0", far.met(33, 0), -1);
        DUE.is("32 met 0 at first", far.met(32, 0), 0);
    }

    private static void horses() {
        DUE.about("A HORSE's WAY: 0 over at most one STONE");
        CobblePorts x = Due.told("port 0;port 0;stones 1 1 0;");
        DUE.is("over none", x.horse(0, 0), 0);
        DUE.is("over one", x.horse(1, 1), 0);
        DUE.is("over one of elsewhere", x.horse(1, 0), 0);
        DUE.about("A HORSE's WAY: each step on the next STONE, or the one behind that");
        way("1 1", 9, 14);
        way("1 9", 1, 6);
        way("9 1", 1, 6);
        way("0 5 0", 5, 10);
        way("9 0 9", 2, 12);
        way("0 9 0", 1, 6);
        way("0 0 9 9 0 0", 21, 36);
        way("9 0 0 9", 11, 21);
        way("9 0 0 0 9", 12, 27);
        way("0 9 9 0", 2, 12);
        DUE.about("it costs 10 less SQUARENESS of each STONE on which it treads, and 5 more if its ORIGIN isn't the HORSE's");
        CobblePorts own = Due.told("port 0;port 0;stones 0 20 9;stones 0 20 9;");
        DUE.is("twenty of forty", own.horse(0, 0), 20);
        DUE.is("of elsewhere", own.horse(0, 1), 120);
        CobblePorts rough = Due.told("port 0;port 0;stones 0 20 0;stones 0 19 0;");
        DUE.is("nineteen of thirty-nine", rough.horse(0, 0), 190);
        DUE.is("rough ones of elsewhere", rough.horse(0, 1), 285);
        CobblePorts mixed = Due.told("port 0;port 0;stones 0 1 5;stones 1 1 8;plain 1 1;");
        mixed.sail(0, 0, 0);
        DUE.is("its own, five", mixed.horse(0, 0), 5);
        DUE.is("the other one's, two", mixed.horse(0, 1), 2);
    }

    private static void way(String squares, int own, int strange) {
        CobblePorts x = Due.told("port 0;port 0;stones 0 1 " + squares.replace(" ", ";stones 0 1 ") + ";");
        DUE.is("over " + squares, x.horse(0, 0), own);
        DUE.is("over " + squares + " of elsewhere", x.horse(0, 1), strange);
    }
}
