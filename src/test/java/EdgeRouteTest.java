/** The boundary cases of promises 16 to 21, and of ROUTE, LOADS, BEST LOADS and READ, sentence by sentence. */
public final class EdgeRouteTest {
    private static final Due DUE = new Due();
    private static final int[] FAR = {-1, Integer.MIN_VALUE, Integer.MAX_VALUE, 1 << 16, -41};

    public static void main(String[] args) {
        fourLegs();
        noSuchAhead();
        forgotten();
        howeverManyVoyages();
        leftOut();
        leftOutMovesNothing();
        cargoOfEachLeg();
        noLegs();
        noBestLoads();
        needOfNothing();
        leastMud();
        mostCargo();
        firstAsARow();
        inOrder();
        routesMoveNothing();
        tenRead();
        readAsTold();
        readInOrder();
        noneFit();
        firstThatFit();
        loadsThatAreKept();
        loadsOfTheLegsThen();
        loadsStay();
        DUE.end();
    }

    private static void fourLegs() {
        DUE.about("Promise 16: A LEG: how many there are. NONE (STATUS 2): there are 4.");
        CobblePorts x = Due.told("port 0;port 0;stones 0 1 1;plain 1 0;plain 1 1;");
        DUE.is("first", x.leg(0, 1), 1);
        DUE.is("second, to where it is then", x.leg(0, 1), 2);
        DUE.is("third, to where it is now", x.leg(1, 1), 3);
        DUE.is("fourth", x.leg(1, 0), 4);
        int all = x.fits();
        String ahead = Due.dump(x);
        DUE.is("fifth", x.leg(0, 0), -1);
        DUE.is("fifth again", x.leg(1, 1), -1);
        DUE.is("refused, and nothing else", Due.dump(x), ahead.replace("refused 0 0", "refused 0 2"));
        DUE.is("the route is as it was", x.fits(), all);
        x.forget();
        DUE.is("first again", x.leg(1, 1), 1);
    }

    private static void noSuchAhead() {
        DUE.about("Promise 16: NoSuchElementException (ahead): no such SHIP, PORT");
        CobblePorts x = Due.told("port 0;port 0;plain 1 0;");
        DUE.noSuch("no ship", () -> x.leg(1, 0));
        DUE.noSuch("no port", () -> x.leg(0, 2));
        DUE.is("none came", x.count(4), 0);
        for (int i = 0; i < 4; i++) {
            x.leg(0, 0);
        }
        for (int wrong : FAR) {
            DUE.noSuch("no ship " + wrong, () -> x.leg(wrong, 0));
            DUE.noSuch("no port " + wrong, () -> x.leg(0, wrong));
        }
        DUE.is("none is counted", x.count(11), 0);
        CobblePorts none = Due.told("port 0;");
        DUE.noSuch("no ships at all", () -> none.leg(0, 0));
    }

    private static void forgotten() {
        DUE.about("Promise 17: All LEGS, and what was READ, are forgotten");
        CobblePorts x = Due.told("port 0;port 1;stones 0 3 1;plain 2 0;");
        x.forget();
        DUE.is("of none", x.count(4) + x.count(5), 0);
        x.sail(0, 1, 1);
        x.leg(0, 0);
        x.leg(0, 1);
        for (int i = 0; i < 10; i++) {
            x.read(0, 0, 3);
        }
        x.sail(0, 1, 0);
        x.read(0, 0, 3);
        x.fits();
        String ahead = Due.dump(x);
        x.forget();
        DUE.is("nothing else", Due.dump(x), ahead.replace("counts 2 3 1 1 2 10 ", "counts 2 3 1 1 0 0 "));
        DUE.is("one row of none fits nothing read", x.fits(), 1);
        DUE.is("ten can be read again", x.read(1, 1, 0), 1);
        DUE.is("four legs again", x.leg(0, 0), 1);
        x.forget();
        x.forget();
        DUE.is("twice", x.count(4) + x.count(5), 0);
    }

    private static void howeverManyVoyages() {
        DUE.about("VOYAGES that would be made from now on, however many there were");
        CobblePorts x = Due.told("port 0;port 3;stones 0 3 1;plain 3 0;plain 1 0;");
        for (int i = 0; i < 30; i++) {
            x.sail(0, 1 - (i & 1), 3);
        }
        x.leg(0, 1);
        x.leg(1, 1);
        x.leg(0, 0);
        x.leg(1, 0);
        DUE.is("four legs behind thirty", x.fits(), 4 * 2 * 4 * 2);
        DUE.is("its street", x.best(1), 0);
        DUE.is("loads", row(x, 4), "0 1 3 1");
        DUE.is("thirty", x.count(3), 30);
        DUE.about("from now on: from where SHIPS and STONES are");
        CobblePorts now = Due.told("port 0;port 2;stones 0 4 1;plain 2 0;");
        now.leg(0, 1);
        DUE.is("two must go", now.best(1), 0);
        DUE.is("with no cargo", row(now, 1), "0");
        now.sail(0, 1, 1);
        DUE.is("it is there: no way", now.best(1), -1);
        now.sail(0, 0, 2);
        DUE.is("one must go", now.best(1), 0);
        DUE.is("with one of cargo", row(now, 1), "1");
        now.undo();
        now.undo();
        DUE.is("undone: two must go", now.best(1), 0);
        DUE.is("undone: with no cargo", row(now, 1), "0");
    }

    private static void leftOut() {
        DUE.about("a LEG to the PORT where its SHIP is then is left out; 0 alone of one that is left out");
        CobblePorts x = Due.told("port 0;port 0;stones 0 4 1;plain 3 0;plain 2 0;");
        x.leg(0, 0);
        DUE.is("where it is", x.fits(), 1);
        DUE.is("its load", row(x, 1), "0");
        x.leg(0, 1);
        DUE.is("then it sails", x.fits(), 4);
        x.leg(0, 1);
        DUE.is("where it is then", x.fits(), 4);
        x.leg(0, 0);
        DUE.is("and back", x.fits(), 16);
        DUE.is("best", x.best(0), 0);
        DUE.is("loads", row(x, 4), "0 3 0 3");
        x.forget();
        x.leg(1, 1);
        x.leg(0, 0);
        x.leg(1, 1);
        x.leg(1, 0);
        DUE.is("another one's leg moves it not", x.fits(), 9);
        DUE.is("best loads", x.best(0), 0);
        DUE.is("of two", row(x, 4), "2 0 0 2");
    }

    private static void leftOutMovesNothing() {
        DUE.about("a LEG that is left out: no STONE moves");
        CobblePorts x = Due.told("port 0;port 0;port 0;stones 0 2 1;stones 1 2 9;plain 2 1;homesick 2 0;picky 2 0;plain 1 0;");
        x.sail(0, 0, 0);
        DUE.is("street", Due.street(x, 0), "0 1 3 2");
        x.leg(1, 0);
        x.leg(2, 0);
        x.leg(3, 2);
        x.read(2, 1, 1);
        DUE.is("the last is one of 1", x.fits(), 1);
        x.forget();
        x.leg(2, 0);
        x.leg(1, 0);
        x.leg(3, 2);
        x.read(2, 0, 1);
        DUE.is("it is none of 0", x.fits(), 0);
    }

    private static void cargoOfEachLeg() {
        DUE.about("LOADS: CARGO of each LEG, 0 to its SHIP's HOLD");
        for (int hold = 1; hold <= 8; hold++) {
            CobblePorts x = Due.told("port 0;port 0;plain " + hold + " 0;");
            x.leg(0, 1);
            DUE.is("hold " + hold, x.fits(), hold + 1);
            DUE.is("the first", x.load(0), 0);
            x.best(0);
            DUE.is("the most", x.load(0), hold);
            x.leg(0, 0);
            x.leg(0, 1);
            x.leg(0, 0);
            DUE.is("four legs", x.fits(), (hold + 1) * (hold + 1) * (hold + 1) * (hold + 1));
            x.best(1);
            DUE.is("the most of each", row(x, 4), hold + " " + hold + " " + hold + " " + hold);
        }
    }

    private static void noLegs() {
        DUE.about("A ROUTE without LEGS: one empty row of LOADS");
        CobblePorts x = Due.told("port 1;port 2;stones 0 1 1;stones 1 1 1;plain 4 0;");
        DUE.is("it has its street", x.best(0), 1);
        DUE.noSuch("no load", () -> x.load(0));
        DUE.is("it hasn't", x.best(1), -1);
        DUE.is("nothing read", x.fits(), 1);
        x.read(1, 1, 1);
        DUE.is("as read", x.fits(), 1);
        x.read(1, 0, 1);
        DUE.is("not as read", x.fits(), 0);
        CobblePorts empty = new CobblePorts();
        DUE.is("without a world", empty.fits(), 1);
        DUE.noSuch("no load without a world", () -> empty.load(0));
    }

    private static void noBestLoads() {
        DUE.about("Promise 18: NONE: none (what is kept stays)");
        CobblePorts x = Due.told("port 1;port 2;port 1;stones 0 3 1;plain 2 0;plain 1 1;");
        DUE.is("ahead of all", x.best(1), -1);
        DUE.noSuch("nothing is kept", () -> x.load(0));
        x.leg(0, 1);
        DUE.is("two go", x.best(1), 1);
        DUE.is("no cargo", row(x, 1), "0");
        DUE.is("no way there", x.best(2), -1);
        DUE.is("what is kept stays", row(x, 1), "0");
        x.leg(0, 0);
        x.leg(0, 2);
        x.read(0, 0, 9);
        DUE.is("one too few for three", x.fits(), 0);
        DUE.is("one load is kept still", row(x, 1), "0");
        DUE.noSuch("no second", () -> x.load(1));
        x.forget();
        x.leg(1, 0);
        x.leg(1, 1);
        DUE.is("no way with two legs", x.best(1), -1);
        DUE.noSuch("no second still", () -> x.load(1));
        DUE.is("the first still", x.load(0), 0);
        DUE.is("nothing is refused", x.count(11), 0);
    }

    private static void needOfNothing() {
        DUE.about("by which it has no MUD behind the ROUTE: NEED of 0, of just as many, of one more");
        CobblePorts x = Due.told("port 0;port 2;port 3;stones 0 2 1;plain 2 0;");
        x.leg(0, 1);
        DUE.is("needs none", x.best(0), 3);
        DUE.is("all are carried", row(x, 1), "0");
        DUE.is("needs two", x.best(1), 3);
        DUE.is("needs three", x.best(2), -1);
        CobblePorts own = Due.told("port 2;port 1;stones 0 2 1;plain 2 0;");
        own.leg(0, 1);
        DUE.is("for the one from which it sails", own.best(0), 1);
        DUE.is("none is taken", row(own, 1), "2");
        DUE.is("for the other", own.best(1), 1);
        DUE.is("one is taken", row(own, 1), "1");
    }

    private static void leastMud() {
        DUE.about("those by which MUD of all PORTS is least together, ahead of most CARGO");
        CobblePorts x = Due.told("port 1;port 1;port 5;stones 0 6 1;plain 5 0;plain 4 1;");
        x.leg(0, 1);
        x.leg(1, 2);
        DUE.is("all mud", x.best(1), 1);
        DUE.is("loads", row(x, 2), "0 0");
        CobblePorts over = Due.told("port 0;port 1;stones 0 6 1;plain 5 0;");
        over.leg(0, 1);
        DUE.is("what is too many is no less mud", over.best(1), 0);
        DUE.is("so most cargo", row(over, 1), "4");
    }

    private static void mostCargo() {
        DUE.about("of like ones those of most CARGO together");
        CobblePorts x = Due.told("port 0;port 2;stones 0 2 1;plain 5 0;proud 8 0;");
        x.leg(0, 1);
        x.leg(1, 1);
        DUE.is("no mud", x.best(1), 0);
        DUE.is("3 and 8, not 5 and 4", row(x, 2), "3 8");
        CobblePorts few = Due.told("port 0;port 1;stones 0 1 1;plain 8 0;");
        few.leg(0, 1);
        few.best(1);
        DUE.is("one is there: seven of cargo do", row(few, 1), "7");
        CobblePorts proud = Due.told("port 0;port 1;stones 0 9 1;proud 8 0;");
        proud.leg(0, 1);
        proud.best(1);
        DUE.is("room of two for one", row(proud, 1), "6");
    }

    private static void firstAsARow() {
        DUE.about("then the first as a row");
        CobblePorts x = Due.told("port 0;port 3;stones 0 9 1;plain 2 0;plain 2 0;plain 2 0;");
        x.leg(0, 1);
        x.leg(1, 1);
        x.leg(2, 1);
        DUE.is("three of six", x.best(1), 0);
        DUE.is("0 1 2, not 1 1 1 or 2 1 0", row(x, 3), "0 1 2");
        x.forget();
        x.leg(2, 1);
        x.leg(0, 1);
        DUE.is("three of four", x.best(1), 0);
        DUE.is("0 1, not 1 0", row(x, 2), "0 1");
    }

    private static void inOrder() {
        DUE.about("A ROUTE: VOYAGES that would be made, in order");
        CobblePorts x = Due.told("port 0;port 0;port 1;stones 0 1 1;plain 1 0;plain 1 1;");
        x.leg(0, 1);
        x.leg(1, 2);
        DUE.is("there, and on", x.best(2), 0);
        x.forget();
        x.leg(1, 2);
        x.leg(0, 1);
        DUE.is("on, and there", x.best(2), -1);
    }

    private static void routesMoveNothing() {
        DUE.about("VOYAGES that would be made: nothing is moved");
        CobblePorts x = Due.told("port 1;port 3;port 2;stones 0 3 1;stones 1 2 9;picky 3 0;homesick 4 1;proud 7 0;tariff 5;");
        x.sail(1, 0, 1);
        x.leg(0, 1);
        x.leg(1, 2);
        x.leg(2, 1);
        x.leg(0, 2);
        x.read(2, 1, 1);
        int mud = x.best(1);
        String ahead = Due.dump(x);
        DUE.is("there are some", mud >= 0 ? 1 : 0, 1);
        x.best(1);
        DUE.is("by best", Due.dump(x), ahead);
        x.fits();
        x.best(1);
        DUE.is("by fits", Due.dump(x), ahead);
        DUE.is("it can be undone", x.undo(), 0);
    }

    private static void tenRead() {
        DUE.about("Promise 19: READ: how much there is. NONE (STATUS 2): there are 10");
        CobblePorts x = Due.told("port 0;port 0;stones 0 1 1;");
        for (int i = 1; i <= 10; i++) {
            DUE.is("read " + i, x.read(0, 0, 1), i);
        }
        DUE.is("they fit", x.fits(), 1);
        String ahead = Due.dump(x);
        DUE.is("one more", x.read(0, 0, 40), -1);
        DUE.is("refused, and nothing else", Due.dump(x), ahead.replace("refused 0 0", "refused 0 1"));
        DUE.is("they fit still", x.fits(), 1);
        DUE.is("not as told too", x.read(0, 0, 41), -1);
        DUE.is("counted once", x.count(11), 2);
    }

    private static void readAsTold() {
        DUE.about("Promise 19: NONE (STATUS 2): it is not 0 to 40");
        CobblePorts x = Due.told("port 0;port 0;stones 0 20 1;stones 0 20 1;");
        for (int many : new int[] {-1, 41, Integer.MIN_VALUE, Integer.MAX_VALUE, 9999}) {
            DUE.is("read " + many, x.read(0, 0, many), -1);
        }
        DUE.is("refused", x.count(11), 5);
        DUE.is("none came", x.count(5), 0);
        DUE.is("40", x.read(0, 0, 40), 1);
        DUE.is("0", x.read(1, 0, 0), 2);
        DUE.is("both hold", x.fits(), 1);
        DUE.is("39", x.read(0, 0, 39), 3);
        DUE.is("that doesn't", x.fits(), 0);
    }

    private static void readInOrder() {
        DUE.about("Promise 19: NoSuchElementException: no such PORT, as everywhere");
        CobblePorts x = Due.told("port 0;port 0;");
        for (int wrong : FAR) {
            DUE.noSuch("port " + wrong, () -> x.read(wrong, 0, 0));
            DUE.noSuch("origin " + wrong, () -> x.read(0, wrong, 0));
            DUE.noSuch("port and many " + wrong, () -> x.read(wrong, 0, 41));
            DUE.noSuch("origin and many " + wrong, () -> x.read(0, wrong, -1));
        }
        DUE.noSuch("port 2", () -> x.read(2, 0, 0));
        DUE.noSuch("origin 2", () -> x.read(0, 2, 0));
        DUE.is("none is counted", x.count(11), 0);
        DUE.is("none came", x.count(5), 0);
    }

    private static void noneFit() {
        DUE.about("Promise 20: How many LOADS fit what was READ; the first are kept, if there are some");
        CobblePorts x = Due.told("port 0;port 0;stones 0 3 1;plain 2 0;");
        x.leg(0, 1);
        x.read(1, 0, 3);
        DUE.is("three can't", x.fits(), 0);
        DUE.noSuch("none is kept", () -> x.load(0));
        x.forget();
        x.leg(0, 1);
        x.read(1, 0, 1);
        DUE.is("one can", x.fits(), 1);
        DUE.is("with one of cargo", x.load(0), 1);
        x.read(1, 0, 2);
        DUE.is("one and two can't", x.fits(), 0);
        DUE.is("what is kept stays", x.load(0), 1);
        x.leg(0, 0);
        DUE.is("nor with another leg", x.fits(), 0);
        DUE.noSuch("one load is kept", () -> x.load(1));
    }

    private static void firstThatFit() {
        DUE.about("READ: how many LOADS fit; the first as a row");
        CobblePorts x = Due.told("port 0;port 0;stones 0 2 1;plain 4 0;plain 3 0;");
        x.leg(0, 1);
        x.leg(1, 1);
        x.read(0, 0, 0);
        DUE.is("all were taken", x.fits(), 3 * 4 + 3 + 2);
        DUE.is("the first", row(x, 2), "0 0");
        x.read(1, 0, 2);
        DUE.is("the same once more", x.fits(), 17);
        x.forget();
        x.leg(0, 1);
        x.leg(1, 1);
        x.read(0, 0, 1);
        DUE.is("one was left", x.fits(), 2);
        DUE.is("the first of them", row(x, 2), "3 3");
        x.read(0, 1, 0);
        x.read(1, 1, 0);
        DUE.is("none of another origin", x.fits(), 2);
        x.read(1, 1, 1);
        DUE.is("one of another origin", x.fits(), 0);
    }

    private static void loadsThatAreKept() {
        DUE.about("Promise 21: NoSuchElementException: none are kept, there is none");
        CobblePorts x = Due.told("port 0;port 0;stones 0 2 1;plain 4 0;");
        DUE.noSuch("none are kept", () -> x.load(0));
        x.leg(0, 1);
        DUE.noSuch("none are kept yet", () -> x.load(0));
        for (int legs = 1; legs <= 4; legs++) {
            x.fits();
            int last = legs - 1;
            DUE.is("the last", Due.outcome(() -> x.load(last)), "0");
            int behind = legs;
            DUE.noSuch("behind the last", () -> x.load(behind));
            for (int i : FAR) {
                DUE.noSuch("load " + i, () -> x.load(i));
            }
            x.leg(0, 1 - (legs & 1));
        }
        DUE.noSuch("load 4 of four", () -> x.load(4));
        Due.tell(x, "?");
        DUE.is("a fault takes them not", x.load(3), 0);
        x.world(0);
        DUE.noSuch("a world takes them", () -> x.load(0));
    }

    private static void loadsOfTheLegsThen() {
        DUE.about("Promise 21: CARGO of the i-th LEG of LOADS that are kept");
        CobblePorts x = Due.told("port 0;port 0;plain 4 0;plain 3 1;");
        x.leg(0, 1);
        x.leg(1, 0);
        x.best(0);
        DUE.is("two", row(x, 2), "4 3");
        x.leg(0, 0);
        DUE.noSuch("a leg behind has none", () -> x.load(2));
        x.forget();
        x.leg(1, 0);
        DUE.is("they are the old ones", row(x, 2), "4 3");
        x.best(0);
        DUE.is("one", row(x, 1), "3");
        DUE.noSuch("one alone", () -> x.load(1));
        x.fits();
        DUE.is("in place of it", row(x, 1), "0");
    }

    private static void loadsStay() {
        DUE.about("Promise 18: they are kept");
        CobblePorts x = Due.told("port 0;port 1;stones 0 4 1;plain 4 0;");
        x.image();
        x.leg(0, 1);
        x.best(1);
        DUE.is("three", row(x, 1), "3");
        x.sail(0, 1, 0);
        DUE.is("behind a voyage", row(x, 1), "3");
        x.undo();
        DUE.is("behind undo", row(x, 1), "3");
        x.forget();
        DUE.is("behind forget", row(x, 1), "3");
        x.flood(0, 3, 3);
        DUE.is("behind floods", row(x, 1), "3");
        x.restore();
        DUE.is("behind restore", row(x, 1), "3");
    }

    private static String row(CobblePorts x, int many) {
        StringBuilder row = new StringBuilder();
        for (int i = 0; i < many; i++) {
            int k = i;
            row.append(i == 0 ? "" : " ").append(Due.outcome(() -> x.load(k)));
        }
        return row.toString();
    }
}
