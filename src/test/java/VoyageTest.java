/** Promises 10 to 15: sail, undo, voyage, gap, met, horse. */
public final class VoyageTest {
    private static final Due DUE = new Due();

    public static void main(String[] args) {
        kinds();
        refusals();
        thirty();
        undoing();
        undoingMiddles();
        prices();
        voyages();
        gaps();
        meetings();
        horses();
        DUE.end();
    }

    private static void kinds() {
        /* STONES 0 .. 5 in PORT 0: squareness 3 3 8 8 1 1; then two of PORT 1 come behind them. */
        String world = "port 0;port 0;port 0;stones 0 2 3;stones 0 2 8;stones 0 2 1;stones 1 2 5;plain 2 1;";
        CobblePorts x = Due.told(world + "plain 3 0;");
        x.sail(0, 0, 0);
        DUE.is("laid as they were taken", Due.street(x, 0), "0 1 2 3 4 5 7 6");
        DUE.is("a plain one", x.sail(1, 2, 0), 3);
        DUE.is("takes the last", Due.street(x, 2), "6 7 5");
        x = Due.told(world + "picky 4 0;");
        x.sail(0, 0, 0);
        DUE.is("a picky one", x.sail(1, 2, 0), 4);
        DUE.is("takes the squarest, of like ones the last", Due.street(x, 2), "3 2 6 7");
        DUE.is("what it left", Due.street(x, 0), "0 1 4 5");
        x = Due.told(world + "homesick 3 1;");
        x.sail(0, 0, 0);
        x.sail(1, 0, 3);
        DUE.is("a homesick one", x.sail(1, 2, 0), 3);
        DUE.is("takes those of its home, then the last", Due.street(x, 2), "6 7 5");
        x = Due.told(world + "homesick 3 0;");
        x.sail(0, 0, 0);
        x.sail(1, 2, 1);
        DUE.is("it leaves others behind them", Due.street(x, 0), "0 1 2 3 7 6");
        DUE.is("the last of its home first", Due.street(x, 2), "5 4");
        x = Due.told(world + "proud 8 0;");
        DUE.is("a proud one half, cut down", x.sail(1, 2, 1), 3);
        DUE.is("the last", Due.street(x, 2), "5 4 3");
        DUE.is("half of one is none", x.sail(1, 0, 7), 0);
        DUE.is("half of eight", x.sail(1, 2, 0), 3);
        DUE.is("as many as there are", Due.street(x, 0), "");
        DUE.is("none from an empty street", x.sail(0, 0, 2), 0);
        DUE.is("none, though it has room", x.sail(0, 1, 0), 0);
    }

    private static void refusals() {
        CobblePorts x = Due.told("port 0;port 0;stones 0 2 3;plain 2 1;");
        DUE.is("it is there", x.sail(0, 1, 0), -1);
        DUE.is("cargo below 0", x.sail(0, 0, -1), -1);
        DUE.is("cargo beyond its hold", x.sail(0, 0, 3), -1);
        DUE.is("cargo far beyond", x.sail(0, 0, Integer.MAX_VALUE), -1);
        DUE.is("cargo far below", x.sail(0, 0, Integer.MIN_VALUE), -1);
        DUE.is("refused", x.count(10), 5);
        DUE.noSuch("no ship, ahead", () -> x.sail(1, 1, -1));
        DUE.noSuch("no ship below", () -> x.sail(-1, 1, 0));
        DUE.noSuch("no port, ahead", () -> x.sail(0, 2, 9));
        DUE.noSuch("no port below", () -> x.sail(0, -1, 0));
        DUE.is("those are not counted", x.count(10), 5);
        DUE.is("no voyage was made", x.count(3), 0);
        DUE.is("cargo as its hold", x.sail(0, 0, 2), 0);
    }

    private static void thirty() {
        CobblePorts x = Due.told("port 0;port 0;stones 0 2 3;plain 2 1;plain 1 0;");
        for (int i = 0; i < 30; i++) {
            DUE.is("voyage " + i, x.sail(0, i & 1, 0), i == 0 ? 0 : 2);
        }
        DUE.is("voyage 30", x.sail(0, 0, 0), -1);
        DUE.is("it was refused", x.count(10), 1);
        DUE.noSuch("no port, ahead of thirty", () -> x.sail(0, 2, 0));
        DUE.is("an undone one", x.undo(), 29);
        DUE.is("makes room", x.sail(1, 1, 0), 1);
        DUE.is("for one", x.sail(1, 0, 0), -1);
        for (int i = 29; i >= 0; i--) {
            DUE.is("undone " + i, x.undo(), i);
        }
        DUE.is("none left", x.undo(), -1);
        DUE.is("that isn't counted", x.count(10), 2);
    }

    private static void undoing() {
        CobblePorts x = Due.told("port 4;port 1;stones 0 3 3;plain 2 0;tariff 1;");
        x.leg(0, 1);
        x.read(0, 0, 1);
        x.sail(0, 1, 0);
        x.sail(0, 1, 0);
        DUE.is("undone", x.undo(), 0);
        DUE.is("street 0", Due.street(x, 0), "0 1 2");
        DUE.is("street 1", Due.street(x, 1), "");
        DUE.is("the ship", x.ship(0, 3), 0);
        DUE.is("price 0", x.port(0, 4), 10);
        DUE.is("price 1", x.port(1, 4), 10);
        DUE.is("toll", x.count(7), 0);
        DUE.is("led", x.stone(2, 4), -1);
        DUE.is("been", x.stone(2, 5), 1);
        DUE.is("gap", x.gap(0, 1), 0);
        DUE.is("own", x.port(0, 5), 3);
        DUE.is("legs stay", x.count(4), 1);
        DUE.is("what was read stays", x.count(5), 1);
        DUE.is("status stays", x.count(10), 1);
        DUE.noSuch("no voyage", () -> x.voyage(0, 0));
    }

    private static void undoingMiddles() {
        CobblePorts x = Due.told("port 4;port 1;port 0;stones 0 1 3;stones 0 1 9;stones 0 2 4;stones 1 1 9;stones 0 1 2;"
            + "picky 3 0;homesick 4 1;plain 1 2;");
        x.sail(1, 0, 0);
        String ahead = Due.street(x, 0);
        DUE.is("street ahead", ahead, "0 1 2 3 5 4");
        x.sail(0, 2, 0);
        DUE.is("picky took from the middle", Due.street(x, 0), "0 2 5");
        DUE.is("picky laid", Due.street(x, 2), "4 1 3");
        x.undo();
        DUE.is("street again", Due.street(x, 0), ahead);
        x.sail(1, 2, 1);
        DUE.is("homesick took", Due.street(x, 0), "0 1 2");
        DUE.is("homesick laid", Due.street(x, 2), "4 5 3");
        x.sail(2, 1, 0);
        x.undo();
        x.undo();
        DUE.is("street once more", Due.street(x, 0), ahead);
        DUE.is("the other is empty", Due.street(x, 2), "");
        x.undo();
        DUE.is("as at first", Due.street(x, 0), "0 1 2 3 5");
        DUE.is("at home", Due.street(x, 1), "4");
    }

    private static void prices() {
        CobblePorts x = Due.told("port 0;port 40;port 2;stones 0 3 3;stones 2 2 3;plain 1 0;plain 1 1;");
        for (int i = 1; i <= 30; i++) {
            x.sail(1, 1 - (i & 1), 1);
            DUE.is("too many stones " + i, x.port(0, 4), Math.max(0, 10 - i));
            DUE.is("mud " + i, x.port(1, 4), 10 + i);
            DUE.is("as told " + i, x.port(2, 4), 10);
        }
        for (int i = 29; i >= 0; i--) {
            x.undo();
            DUE.is("undone, too many stones " + i, x.port(0, 4), Math.max(0, 10 - i));
            DUE.is("undone, mud " + i, x.port(1, 4), 10 + i);
        }
    }

    private static void voyages() {
        CobblePorts x = Due.told("port 0;port 0;port 0;stones 0 3 3;plain 1 0;picky 4 0;tariff 5;");
        x.sail(1, 2, 2);
        x.sail(0, 1, 0);
        int[][] want = {{1, 0, 2, 2, 2, 10}, {0, 0, 1, 0, 1, 5}};
        for (int v = 0; v < 2; v++) {
            for (int what = 0; what < 6; what++) {
                DUE.is("voyage " + v + " " + what, x.voyage(v, what), want[v][what]);
            }
        }
        DUE.noSuch("no voyage 2", () -> x.voyage(2, 0));
        DUE.noSuch("no voyage below", () -> x.voyage(-1, 0));
        DUE.noSuch("no what 6", () -> x.voyage(0, 6));
        DUE.noSuch("no what below", () -> x.voyage(1, -1));
        DUE.noSuch("no what far below", () -> x.voyage(1, Integer.MIN_VALUE));
        DUE.noSuch("no voyage far", () -> x.voyage(Integer.MAX_VALUE, 0));
    }

    private static void gaps() {
        CobblePorts x = Due.told("port 0;port 0;port 0;stones 0 5 3;plain 3 0;plain 8 1;");
        x.sail(0, 1, 0);
        x.sail(1, 0, 6);
        x.sail(0, 2, 3);
        DUE.is("three there, two back", x.gap(0, 1), 1);
        DUE.is("the other way", x.gap(1, 0), -1);
        DUE.is("none", x.gap(1, 2), 0);
        DUE.is("one port", x.gap(0, 0), 0);
        DUE.noSuch("no first", () -> x.gap(3, 0));
        DUE.noSuch("no second", () -> x.gap(0, 3));
        DUE.noSuch("none below", () -> x.gap(0, -1));
    }

    private static void meetings() {
        CobblePorts x = Due.told("port 0;port 0;port 0;stones 0 2 3;stones 1 1 3;plain 1 0;plain 1 1;plain 1 2;");
        DUE.is("at first", x.met(0, 1), 0);
        DUE.is("not yet", x.met(1, 2), -1);
        DUE.is("one", x.met(1, 1), -1);
        x.sail(0, 2, 0);
        DUE.is("not by then", x.met(1, 2), -1);
        x.sail(1, 2, 0);
        DUE.is("behind two", x.met(1, 2), 2);
        DUE.is("the other way", x.met(2, 1), 2);
        x.sail(2, 0, 0);
        DUE.is("behind three", x.met(2, 0), 3);
        DUE.is("still behind two", x.met(1, 2), 2);
        DUE.is("still at first", x.met(1, 0), 0);
        x.undo();
        DUE.is("undone", x.met(2, 0), -1);
        DUE.noSuch("no stone", () -> x.met(3, 0));
        DUE.noSuch("no other", () -> x.met(0, 3));
        DUE.noSuch("no such both", () -> x.met(-1, -1));
    }

    private static void horses() {
        CobblePorts x = Due.told("port 0;port 0;stones 0 1 5;stones 0 1 9;stones 0 1 0;stones 0 1 9;stones 0 1 1;stones 1 1 4;"
            + "plain 8 0;plain 4 0;plain 1 1;");
        DUE.is("over one stone", x.horse(1, 0), 0);
        /* Costs 5 1 10 1 9, and 5 more for a horse from elsewhere. */
        DUE.is("at home", x.horse(0, 0), 2);
        DUE.is("from elsewhere", x.horse(0, 1), 12);
        x.sail(2, 0, 0);
        DUE.is("over a strange stone too", x.horse(0, 0), 11);
        DUE.is("over an empty street", x.horse(1, 1), 0);
        x.sail(2, 1, 0);
        x.sail(1, 1, 0);
        x.sail(2, 0, 1);
        DUE.is("one is left", x.port(0, 2), 1);
        DUE.is("over it", x.horse(0, 1), 0);
        CobblePorts two = Due.told("port 0;stones 0 1 2;stones 0 1 6;");
        DUE.is("over two", two.horse(0, 0), 4);
        DUE.noSuch("no port", () -> two.horse(1, 0));
        DUE.noSuch("no home", () -> two.horse(0, 1));
        DUE.noSuch("none below", () -> two.horse(-1, 0));
    }
}
