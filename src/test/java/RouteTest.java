/** Promises 16 to 21: leg, forget, best, read, fits, load. */
public final class RouteTest {
    private static final Due DUE = new Due();

    public static void main(String[] args) {
        legs();
        forgetting();
        bestLoads();
        ties();
        leftOut();
        reading();
        fitting();
        noLegs();
        longRoute();
        behindThirty();
        DUE.end();
    }

    private static void legs() {
        CobblePorts x = Due.told("port 0;port 0;plain 1 0;");
        DUE.noSuch("no ship", () -> x.leg(1, 0));
        DUE.noSuch("no port", () -> x.leg(0, 2));
        for (int i = 1; i <= 4; i++) {
            DUE.is("leg " + i, x.leg(0, i & 1), i);
        }
        DUE.is("leg 5", x.leg(0, 1), -1);
        DUE.noSuch("no ship, ahead of four", () -> x.leg(-1, 0));
        DUE.noSuch("no port, ahead of four", () -> x.leg(0, -1));
        DUE.is("refused", x.count(11), 1);
        DUE.is("legs", x.count(4), 4);
    }

    private static void forgetting() {
        CobblePorts x = Due.told("port 0;port 0;stones 0 1 1;plain 3 0;");
        x.leg(0, 1);
        x.read(0, 0, 0);
        DUE.is("fit", x.fits(), 3);
        x.forget();
        DUE.is("no legs", x.count(4), 0);
        DUE.is("nothing read", x.count(5), 0);
        DUE.is("loads are kept", x.load(0), 0);
        DUE.is("no loads, nothing read", x.fits(), 1);
        DUE.noSuch("loads of no legs", () -> x.load(0));
        DUE.is("leg 1", x.leg(0, 1), 1);
        DUE.is("fit then", x.fits(), 4);
    }

    private static void bestLoads() {
        CobblePorts x = Due.told("port 2;port 2;port 1;stones 0 4 1;plain 4 0;plain 3 1;");
        x.leg(0, 1);
        DUE.is("mud of all", x.best(1), 1);
        DUE.is("two of cargo leave two stones for each", x.load(0), 2);
        DUE.noSuch("one leg", () -> x.load(1));
        DUE.noSuch("none below", () -> x.load(-1));
        DUE.is("a port with no way", x.best(2), -1);
        DUE.is("what is kept stays", x.load(0), 2);
        x.leg(1, 2);
        DUE.is("mud of the second", x.best(2), 1);
        DUE.is("first load: of like ones the most cargo", x.load(0), 2);
        DUE.is("second load", x.load(1), 2);
        DUE.is("nothing was moved", Due.street(x, 0), "0 1 2 3");
        DUE.is("nothing was laid", Due.street(x, 1), "");
        DUE.is("no ship sailed", x.ship(0, 3), 0);
        DUE.is("no voyage", x.count(3), 0);
        DUE.noSuch("no port", () -> x.best(3));
        DUE.noSuch("no port below", () -> x.best(-1));
    }

    private static void ties() {
        CobblePorts x = Due.told("port 0;port 2;stones 0 4 1;plain 2 0;plain 2 0;");
        x.leg(0, 1);
        x.leg(1, 1);
        DUE.is("no mud", x.best(1), 0);
        DUE.is("the first as a row: 0", x.load(0), 0);
        DUE.is("the first as a row: 2", x.load(1), 2);
        CobblePorts most = Due.told("port 0;port 0;stones 0 2 1;plain 8 0;proud 7 0;");
        most.leg(0, 1);
        most.leg(1, 1);
        DUE.is("no mud at all", most.best(1), 0);
        DUE.is("most cargo: 8", most.load(0), 8);
        DUE.is("most cargo: 7", most.load(1), 7);
        CobblePorts proud = Due.told("port 0;port 1;stones 0 4 1;proud 7 0;");
        proud.leg(0, 1);
        DUE.is("a proud one", proud.best(1), 0);
        DUE.is("takes one with five", proud.load(0), 5);
    }

    private static void leftOut() {
        CobblePorts x = Due.told("port 0;port 1;stones 0 4 1;plain 3 0;plain 2 1;");
        x.leg(0, 0);
        x.leg(0, 1);
        x.leg(1, 1);
        x.leg(0, 1);
        DUE.is("left out", x.best(1), 0);
        DUE.is("load 0", x.load(0), 0);
        DUE.is("load 1", x.load(1), 2);
        DUE.is("load 2", x.load(2), 0);
        DUE.is("load 3", x.load(3), 0);
        DUE.is("as many as of one leg", x.fits(), 4);
        x.sail(0, 1, 0);
        DUE.is("two of them sail then", x.fits(), 16);
        x.forget();
        x.leg(0, 1);
        DUE.is("one leg to where it is", x.fits(), 1);
        DUE.is("its load", x.load(0), 0);
        DUE.is("it has its street", x.best(1), 0);
    }

    private static void reading() {
        CobblePorts x = Due.told("port 0;port 1;stones 0 4 1;plain 3 0;");
        DUE.noSuch("no port", () -> x.read(2, 0, 0));
        DUE.noSuch("no origin", () -> x.read(0, 2, 0));
        DUE.noSuch("no port, ahead", () -> x.read(-1, 0, 41));
        DUE.noSuch("no origin, ahead", () -> x.read(0, -1, -1));
        DUE.is("below 0", x.read(0, 0, -1), -1);
        DUE.is("above 40", x.read(0, 0, 41), -1);
        DUE.is("far above", x.read(0, 0, Integer.MAX_VALUE), -1);
        DUE.is("refused", x.count(11), 3);
        for (int i = 1; i <= 10; i++) {
            DUE.is("read " + i, x.read(1, 1, i < 10 ? 0 : 40), i);
        }
        DUE.is("read 11", x.read(1, 1, 0), -1);
        DUE.is("refused then", x.count(11), 4);
        DUE.is("how much", x.count(5), 10);
        DUE.is("none fits both", x.fits(), 0);
        DUE.noSuch("nothing is kept", () -> x.load(0));
    }

    private static void fitting() {
        CobblePorts x = Due.told("port 0;port 0;port 0;stones 0 4 1;stones 1 2 1;plain 4 0;plain 2 1;");
        x.leg(0, 1);
        x.leg(1, 2);
        DUE.is("all", x.fits(), 15);
        DUE.is("the first as a row", x.load(0) + x.load(1), 0);
        x.read(2, 0, 1);
        DUE.is("one of the first lies there", x.fits(), 5);
        DUE.is("load 0", x.load(0), 0);
        DUE.is("load 1", x.load(1), 1);
        x.read(0, 0, 3);
        DUE.is("one was taken", x.fits(), 2);
        DUE.is("load 0 then", x.load(0), 3);
        DUE.is("load 1 then", x.load(1), 0);
        x.read(2, 1, 0);
        DUE.is("and none of the second", x.fits(), 1);
        DUE.is("load 0 at last", x.load(0), 3);
        DUE.is("load 1 at last", x.load(1), 1);
        x.read(2, 1, 1);
        DUE.is("none", x.fits(), 0);
        DUE.is("what is kept stays", x.load(1), 1);
        DUE.is("nothing was moved", Due.street(x, 1), "4 5");
    }

    private static void noLegs() {
        CobblePorts x = Due.told("port 1;port 2;stones 0 1 1;plain 4 0;");
        DUE.is("it has its street", x.best(0), 2);
        DUE.noSuch("an empty row", () -> x.load(0));
        DUE.is("it has not", x.best(1), -1);
        x.read(0, 0, 1);
        DUE.is("it is as read", x.fits(), 1);
        x.read(0, 1, 1);
        DUE.is("it isn't", x.fits(), 0);
        x.leg(0, 1);
        x.forget();
        x.leg(0, 1);
        DUE.is("one leg's loads", x.fits(), 5);
        DUE.is("kept", x.load(0), 0);
        x.forget();
        DUE.is("no legs again", x.best(0), 2);
        DUE.noSuch("the empty row is kept in place", () -> x.load(0));
    }

    private static void longRoute() {
        CobblePorts x = Due.told("port 3;port 3;port 3;port 3;stones 0 20 5;picky 8 0;homesick 8 1;proud 8 2;plain 8 3;");
        x.leg(0, 1);
        x.leg(1, 2);
        x.leg(2, 3);
        x.leg(3, 0);
        DUE.is("all loads", x.fits(), 6561);
        DUE.is("nine are needed, eight carried", x.best(3), 1);
        DUE.is("another has its street", x.best(1), 1);
        x.read(3, 0, 1);
        x.read(0, 0, 13);
        int fitting = x.fits();
        int cargo = x.load(0);
        DUE.is("some fit", fitting > 0 ? 1 : 0, 1);
        x.sail(0, 1, cargo);
        x.sail(1, 2, x.load(1));
        x.sail(2, 3, x.load(2));
        x.sail(3, 0, x.load(3));
        DUE.is("the first that fit do: one", x.port(3, 2), 1);
        DUE.is("the first that fit do: thirteen", x.port(0, 2), 13);
    }

    private static void behindThirty() {
        CobblePorts x = Due.told("port 0;port 3;stones 0 3 3;plain 3 0;");
        for (int i = 0; i < 30; i++) {
            x.sail(0, 1 - (i & 1), 0);
        }
        x.leg(0, 1);
        DUE.is("a route goes on behind thirty", x.best(1), 0);
        DUE.is("its load", x.load(0), 0);
        DUE.is("thirty still", x.count(3), 30);
    }
}
