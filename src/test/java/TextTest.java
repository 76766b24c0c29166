/** Promises 1 to 4: a new object, feed, world, fault. */
public final class TextTest {
    private static final Due DUE = new Due();

    public static void main(String[] args) {
        newObject();
        feeding();
        wrongLengths();
        worldsBeginAnew();
        faultsLeaveAll();
        tokens();
        lineFaults();
        tooMuch();
        unknown();
        exprFaults();
        nesting();
        nots();
        DUE.end();
    }

    private static void newObject() {
        CobblePorts x = new CobblePorts();
        for (int what = 0; what < 12; what++) {
            DUE.is("new count " + what, x.count(what), 0);
        }
        DUE.is("new fault", x.fault(), -1);
        DUE.is("new undo", x.undo(), -1);
        DUE.is("new restore", x.restore() ? 1 : 0, 0);
        DUE.noSuch("new load", () -> x.load(0));
        DUE.is("new fits", x.fits(), 1);
        DUE.noSuch("load of no legs", () -> x.load(0));
        DUE.noSuch("new port", () -> x.port(0, 0));
        DUE.noSuch("new stone", () -> x.stone(0, 0));
        DUE.noSuch("new street", () -> x.street(0, 0));
        DUE.noSuch("new ship", () -> x.ship(0, 0));
        DUE.noSuch("new voyage", () -> x.voyage(0, 0));
        DUE.noSuch("new best", () -> x.best(0));
        x.image();
        DUE.is("an image of nothing", x.restore() ? 1 : 0, 1);
    }

    private static void feeding() {
        CobblePorts x = new CobblePorts();
        for (int i = 1; i <= 30; i++) {
            DUE.is("feed " + i, x.feed(0, 0, 0, 0, 0), 20 * i);
        }
        DUE.is("feed 31", x.feed(0, 0, 0, 0, 0), -1);
        DUE.is("bytes of a full tape", x.count(8), 600);
        DUE.is("a full tape's fault", x.world(600), 1);
        DUE.is("its place", x.fault(), 0);
        DUE.is("the tape is empty behind a fault", x.count(8), 0);
        DUE.is("bytes, the highest first", x.feed(0x706f7274, 0x20373b20, 0x20202020, 0x20202020, 0x2020c3ff), 20);
        DUE.is("the text without the last two bytes", x.world(18), 0);
        DUE.is("its need", x.port(0, 0), 7);
        DUE.is("the tape is empty behind a world", x.count(8), 0);
        Due.feed(x, " ".repeat(599) + "\u00c3");
        DUE.is("a byte above 127", x.world(600), 1);
        DUE.is("the place of a byte above 127", x.fault(), 599);
        Due.feed(x, " ".repeat(600));
        DUE.is("600 blanks", x.world(600), 0);
    }

    private static void wrongLengths() {
        CobblePorts x = Due.told("port 1;");
        x.feed(0x20202020, 0x20202020, 0x20202020, 0x20202020, 0x20202020);
        DUE.illegal("world below 0", () -> x.world(-1));
        DUE.illegal("world beyond the tape", () -> x.world(21));
        DUE.illegal("world far beyond", () -> x.world(Integer.MAX_VALUE));
        DUE.illegal("world far below", () -> x.world(Integer.MIN_VALUE));
        DUE.is("nothing changes: bytes", x.count(8), 20);
        DUE.is("nothing changes: ports", x.count(0), 1);
        DUE.is("nothing changes: status", x.count(9), 0);
        x.world(0);
        fault(x, "z", 1, 0);
        DUE.illegal("world of an empty tape", () -> x.world(1));
        DUE.is("the fault stays behind a wrong length", x.fault(), 0);
        DUE.is("an empty text", x.world(0), 0);
        DUE.is("an empty text has no fault", x.fault(), -1);
        DUE.is("an empty text has no ports", x.count(0), 0);
    }

    private static void worldsBeginAnew() {
        CobblePorts x = Due.told("port 1;port 9 weight 3;stones 0 3 4;plain 2 0;tariff 5;");
        x.sail(0, 1, 0);
        x.sail(0, 1, 0);
        x.leg(0, 0);
        x.read(0, 0, 41);
        x.read(0, 0, 1);
        x.best(0);
        x.image();
        DUE.is("a load is kept", x.load(0), 2);
        DUE.is("a second world", Due.tell(x, "port 4;stones 0 2 1;proud 3 0;"), 0);
        DUE.is("its ports", x.count(0), 1);
        DUE.is("its stones", x.count(1), 2);
        DUE.is("its ships", x.count(2), 1);
        DUE.is("its voyages", x.count(3), 0);
        DUE.is("its legs", x.count(4), 0);
        DUE.is("what was read of it", x.count(5), 0);
        DUE.is("its tolls", x.count(7), 0);
        DUE.is("its weight", x.port(0, 1), 1);
        DUE.is("its price", x.port(0, 4), 10);
        DUE.is("its street", Due.street(x, 0), "0 1");
        DUE.is("status of voyages goes on", x.count(10), 1);
        DUE.is("status of reads goes on", x.count(11), 1);
        DUE.noSuch("loads are gone", () -> x.load(0));
        DUE.is("the image is gone", x.restore() ? 1 : 0, 0);
        DUE.is("no voyage to undo", x.undo(), -1);
        DUE.is("a third world", Due.tell(x, "port 4;port 1;stones 0 2 1;plain 3 0;"), 0);
        DUE.is("it sails", x.sail(0, 1, 0), 2);
        DUE.is("without the first world's tariff", x.voyage(0, 5), 0);
    }

    private static void faultsLeaveAll() {
        CobblePorts x = Due.told("port 1;port 9;stones 0 3 4;plain 2 0;tariff 5;");
        x.image();
        x.sail(0, 1, 0);
        x.leg(0, 0);
        x.read(0, 0, 1);
        x.best(0);
        fault(x, "port 1;port 2;port 3;stones 2 5 5;proud 8 2;tariff 77;?", 1, 54);
        DUE.is("ports stay", x.count(0), 2);
        DUE.is("stones stay", x.count(1), 3);
        DUE.is("ships stay", x.count(2), 1);
        DUE.is("voyages stay", x.count(3), 1);
        DUE.is("legs stay", x.count(4), 1);
        DUE.is("what was read stays", x.count(5), 1);
        DUE.is("the fault is counted", x.count(9), 1);
        DUE.is("loads stay", x.load(0), 2);
        DUE.is("it sails by the old tariff", x.sail(0, 0, 0), 2);
        DUE.is("the old tariff", x.voyage(1, 5), 10);
        DUE.is("the image stays", x.restore() ? 1 : 0, 1);
        DUE.is("status is the image's", x.count(9), 0);
        DUE.is("the fault's place is none of the image's", x.fault(), 54);
    }

    private static void tokens() {
        CobblePorts x = Due.told("\n port\n3weight 07;port0040;stones 0 001 9;stones1 20 0;plain8 1;tariff(1);");
        DUE.is("need", x.port(0, 0), 3);
        DUE.is("weight", x.port(0, 1), 7);
        DUE.is("need of four digits", x.port(1, 0), 40);
        DUE.is("stones", x.count(1), 21);
        fault(x, "Port 1;", 1, 0);
        fault(x, "port\t1;", 1, 4);
        fault(x, "port 1\r;", 1, 6);
        fault(x, "port 1;\0", 1, 7);
        fault(x, "port 1,", 1, 6);
        fault(x, "port 1;tariff 1>2;", 1, 15);
        fault(x, "port 1;tariff 1.2;", 1, 15);
        fault(x, "ports 1;", 1, 0);
        fault(x, "po rt 1;", 1, 0);
        fault(x, "port 1 0;", 1, 7);
    }

    private static void lineFaults() {
        CobblePorts x = new CobblePorts();
        fault(x, ";", 1, 0);
        fault(x, "7;", 1, 0);
        fault(x, "77777;", 1, 0);
        fault(x, "weight 7;", 1, 0);
        fault(x, "  port", 1, 6);
        fault(x, "port 1", 1, 6);
        fault(x, "port 1  \n", 1, 9);
        fault(x, "port ;", 1, 5);
        fault(x, "port x;", 1, 5);
        fault(x, "port 1 port 2;", 1, 7);
        fault(x, "port 1 weight", 1, 13);
        fault(x, "port 1 weight;", 1, 13);
        fault(x, "port 1 weight 1 weight 1;", 1, 16);
        fault(x, "port 1 12345;", 1, 7);
        fault(x, "port 1;stones;", 1, 13);
        fault(x, "port 1;stones 0;", 1, 15);
        fault(x, "port 1;stones 0 1;", 1, 17);
        fault(x, "port 1;stones 0 1 1 1;", 1, 20);
        fault(x, "port 1;stones 0 1 1", 1, 19);
        fault(x, "port 1;plain;", 1, 12);
        fault(x, "port 1;plain 1;", 1, 14);
        fault(x, "port 1;plain 1 0 0;", 1, 17);
        fault(x, "port 1;plain picky 1 0;", 1, 13);
        fault(x, "tariff", 1, 6);
        fault(x, "tariff;", 1, 6);
        fault(x, "tariff 1 port 1;", 1, 9);
        fault(x, "port -1;", 1, 5);
        DUE.is("each is counted", x.count(9), 27);
    }

    private static void tooMuch() {
        CobblePorts x = new CobblePorts();
        fault(x, "port 41;", 2, 5);
        fault(x, "port 00001;", 2, 5);
        fault(x, "port 9999;", 2, 5);
        fault(x, "port 1 weight 100;", 2, 14);
        fault(x, "port 1 weight 00009;", 2, 14);
        fault(x, "port 1;stones 00000 1 1;", 2, 14);
        fault(x, "port 1;stones 0 0 1;", 2, 16);
        fault(x, "port 1;stones 0 21 1;", 2, 16);
        fault(x, "port 1;stones 0 1 10;", 2, 18);
        fault(x, "port 1;plain 0 0;", 2, 13);
        fault(x, "port 1;plain 9 0;", 2, 13);
        fault(x, "port 1;plain 1 00000;", 2, 15);
        fault(x, "port 1;stones 0 20 1;stones 0 20 1;stones 0 1 1;", 2, 44);
        fault(x, "port 1;stones 0 20 1;stones 0 19 1;stones 0 2 1;", 2, 44);
        fault(x, "port 1;".repeat(7), 2, 42);
        fault(x, "port 1;".repeat(6) + "port x", 2, 42);
        fault(x, "port 1;" + "proud 1 0;".repeat(5) + "picky 1 0;", 2, 57);
        fault(x, "port 1;" + "proud 1 0;".repeat(5) + "plain", 2, 57);
        DUE.is("six ports, forty stones, five ships", Due.tell(x, "port 40 weight 99;" + "port 0 weight 0;".repeat(5)
            + "stones 5 20 9;stones 0 19 0;stones 1 1 0;" + "plain 8 5;".repeat(4) + "homesick 1 0;"), 0);
        DUE.is("six ports", x.count(0), 6);
        DUE.is("forty stones", x.count(1), 40);
        DUE.is("five ships", x.count(2), 5);
    }

    private static void unknown() {
        CobblePorts x = new CobblePorts();
        fault(x, "stones 0 1 1;", 3, 7);
        fault(x, "port 1;stones 1 1 1;", 3, 14);
        fault(x, "port 1;stones 9999 1 1;", 3, 14);
        fault(x, "port 1;plain 1 1;", 3, 15);
        fault(x, "plain 1 0;port 1;", 3, 8);
        fault(x, "plain 9 0;port 1;", 2, 6);
        fault(x, "tariff 1;tariff", 4, 9);
        fault(x, "tariff 1;port 1;tariff ?;", 4, 16);
        fault(x, "tariff 1;tarif 1;", 1, 9);
    }

    private static void exprFaults() {
        CobblePorts x = new CobblePorts();
        fault(x, "tariff cheap;", 3, 7);
        fault(x, "tariff port;", 3, 7);
        fault(x, "tariff and;", 3, 7);
        fault(x, "tariff squares;", 3, 7);
        fault(x, "tariff a;", 3, 7);
        fault(x, "tariff z;", 3, 7);
        fault(x, "tariff `;", 1, 7);
        fault(x, "tariff {;", 1, 7);
        fault(x, "tariff 1+not 1;", 3, 9);
        fault(x, "tariff 1<not 1;", 3, 9);
        fault(x, "tariff 1*or;", 3, 9);
        fault(x, "tariff not or;", 3, 11);
        fault(x, "tariff (weight);", 3, 8);
        fault(x, "tariff 1 and", 1, 12);
        fault(x, "tariff 1 and;", 1, 12);
        fault(x, "tariff 1 cheap;", 1, 9);
        fault(x, "tariff 1 not 1;", 1, 9);
        fault(x, "tariff 1 square;", 1, 9);
        fault(x, "tariff 1 1;", 1, 9);
        fault(x, "tariff 1(1);", 1, 8);
        fault(x, "tariff -1;", 1, 7);
        fault(x, "tariff 1+;", 1, 9);
        fault(x, "tariff 1+-1;", 1, 9);
        fault(x, "tariff 1<2<3;", 1, 10);
        fault(x, "tariff 1<2=3;", 1, 10);
        fault(x, "tariff 1==3;", 1, 9);
        fault(x, "tariff (1;", 1, 9);
        fault(x, "tariff (1", 1, 9);
        fault(x, "tariff ();", 1, 8);
        fault(x, "tariff 1);", 1, 8);
        fault(x, "tariff (1));", 1, 10);
        fault(x, "tariff 10000;", 2, 7);
        fault(x, "tariff 1+00000;", 2, 9);
        fault(x, "tariff 1 00000;", 1, 9);
        DUE.is("tests side by side in other NOTs", Due.tell(x, "tariff 1<2 and 2=3 or not 3<4 and (1<2)<3;"), 0);
        DUE.is("a number of four digits", Due.tell(x, "tariff 9999;"), 0);
    }

    private static void nesting() {
        CobblePorts x = new CobblePorts();
        DUE.is("five parentheses", Due.tell(x, "tariff (((((1)))));"), 0);
        DUE.is("five, and five more", Due.tell(x, "tariff (((((1)))))+(((((1)))));"), 0);
        fault(x, "tariff ((((((1))))));", 2, 13);
        fault(x, "tariff (((((( 1", 2, 14);
        fault(x, "tariff ((((((cheap))))));", 2, 13);
        fault(x, "tariff ((((((or))))));", 2, 13);
        fault(x, "tariff ((((((not 1))))));", 2, 13);
        fault(x, "tariff (((((((1)))))));", 2, 13);
        fault(x, "tariff ((((((10000))))));", 2, 13);
        fault(x, "tariff (((((()))))));", 1, 13);
        fault(x, "tariff ((((((+1))))));", 1, 13);
        fault(x, "tariff ((((((;", 1, 13);
        fault(x, "tariff ((((((?", 1, 13);
        fault(x, "tariff ((((((", 1, 13);
        fault(x, "tariff 1+not(", 3, 9);
    }

    private static void nots() {
        CobblePorts x = new CobblePorts();
        DUE.is("six nots", Due.tell(x, "tariff " + "not ".repeat(6) + "1;"), 0);
        DUE.is("six nots, and six more", Due.tell(x, "tariff " + "not ".repeat(6) + "(" + "not ".repeat(6) + "1);"), 0);
        DUE.is("six nots in both sides", Due.tell(x, "tariff " + "not ".repeat(6) + "1 and " + "not ".repeat(6) + "1;"), 0);
        fault(x, "tariff " + "not ".repeat(7) + "1;", 2, 31);
        fault(x, "tariff " + "not ".repeat(9), 2, 31);
        fault(x, "tariff " + "not ".repeat(6) + "port;", 3, 31);
        fault(x, "tariff " + "not ".repeat(6), 1, 31);
    }

    private static void fault(CobblePorts x, String text, int number, int place) {
        DUE.is("world of " + text, Due.tell(x, text), number);
        DUE.is("fault of " + text, x.fault(), place);
    }
}
