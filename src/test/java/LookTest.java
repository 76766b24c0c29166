/** Promises 5 to 9: count, port, stone, street, ship. */
public final class LookTest {
    private static final Due DUE = new Due();
    private static final int[] WRONG = {-1, Integer.MIN_VALUE, Integer.MAX_VALUE};

    public static void main(String[] args) {
        counts();
        ports();
        stones();
        streets();
        ships();
        DUE.end();
    }

    private static CobblePorts small() {
        return Due.told("port 3;port 0 weight 0;port 1 weight 50;stones 1 2 9;stones 0 1 0;stones 1 1 4;"
            + "proud 8 1;plain 1 0;picky 2 1;homesick 3 2;");
    }

    private static void counts() {
        CobblePorts x = small();
        DUE.is("ports", x.count(0), 3);
        DUE.is("stones", x.count(1), 4);
        DUE.is("ships", x.count(2), 4);
        DUE.is("voyages", x.count(3), 0);
        DUE.is("mud of all", x.count(6), 3);
        x.sail(0, 2, 0);
        DUE.is("voyages then", x.count(3), 1);
        DUE.is("mud of all then", x.count(6), 2);
        x.leg(0, 0);
        x.leg(0, 1);
        x.read(0, 0, 0);
        DUE.is("legs", x.count(4), 2);
        DUE.is("read", x.count(5), 1);
        DUE.is("tolls without a tariff", x.count(7), 0);
        x.feed(1, 2, 3, 4, 5);
        DUE.is("bytes", x.count(8), 20);
        x.world(3);
        x.sail(0, 2, 0);
        x.sail(0, 1, 9);
        x.read(0, 0, -1);
        x.read(0, 0, 41);
        x.read(0, 0, 99);
        DUE.is("texts with a fault", x.count(9), 1);
        DUE.is("voyages refused", x.count(10), 2);
        DUE.is("legs and reads refused", x.count(11), 3);
        DUE.noSuch("count 12", () -> x.count(12));
        for (int wrong : WRONG) {
            DUE.noSuch("count " + wrong, () -> x.count(wrong));
        }
    }

    private static void ports() {
        CobblePorts x = small();
        int[][] want = {{3, 1, 1, 2, 10, 1}, {0, 0, 3, 0, 10, 3}, {1, 50, 0, 1, 10, 0}};
        rows("port", want, (port, what) -> x.port(port, what));
        x.sail(0, 0, 1);
        int[][] then = {{3, 1, 4, 0, 9, 1}, {0, 0, 0, 0, 10, 0}, {1, 50, 0, 1, 11, 0}};
        rows("port then", then, (port, what) -> x.port(port, what));
    }

    private static void stones() {
        CobblePorts x = small();
        int[][] want = {{1, 9, 1, 0, -1, 2}, {1, 9, 1, 1, -1, 2}, {0, 0, 0, 0, -1, 1}, {1, 4, 1, 2, -1, 2}};
        rows("stone", want, (stone, what) -> x.stone(stone, what));
        x.sail(0, 0, 5);
        x.sail(1, 2, 0);
        int[][] then = {{1, 9, 1, 0, -1, 2}, {1, 9, 1, 1, -1, 2}, {0, 0, 0, 0, -1, 1}, {1, 4, 2, 0, 1, 7}};
        rows("stone then", then, (stone, what) -> x.stone(stone, what));
        x.undo();
        DUE.is("led to the one ahead", x.stone(3, 4), 0);
        DUE.is("been no more there", x.stone(3, 5), 3);
        x.sail(1, 1, 0);
        DUE.is("at home by the voyage 1", x.stone(3, 4), 1);
        DUE.is("been at home and there", x.stone(3, 5), 3);
        DUE.is("at home", x.stone(3, 2), 1);
        DUE.is("behind the others", x.stone(3, 3), 2);
    }

    private static void streets() {
        CobblePorts x = small();
        DUE.is("street 0", Due.street(x, 0), "2");
        DUE.is("street 1", Due.street(x, 1), "0 1 3");
        DUE.is("street 2", Due.street(x, 2), "");
        DUE.noSuch("behind the last", () -> x.street(1, 3));
        DUE.noSuch("of an empty street", () -> x.street(2, 0));
        DUE.noSuch("of no port", () -> x.street(3, 0));
        for (int wrong : WRONG) {
            DUE.noSuch("place " + wrong, () -> x.street(1, wrong));
            DUE.noSuch("street " + wrong, () -> x.street(wrong, 0));
        }
    }

    private static void ships() {
        CobblePorts x = small();
        int[][] want = {{3, 8, 1, 1}, {0, 1, 0, 0}, {1, 2, 1, 1}, {2, 3, 2, 2}};
        rows("ship", want, (ship, what) -> x.ship(ship, what));
        x.sail(0, 2, 0);
        DUE.is("its home", x.ship(0, 2), 1);
        DUE.is("its port now", x.ship(0, 3), 2);
    }

    private interface Look {
        int at(int which, int what);
    }

    private static void rows(String name, int[][] want, Look look) {
        for (int i = 0; i < want.length; i++) {
            for (int what = 0; what < want[i].length; what++) {
                DUE.is(name + " " + i + " " + what, look.at(i, what), want[i][what]);
            }
            int which = i;
            int behind = want[i].length;
            DUE.noSuch(name + " what " + behind, () -> look.at(which, behind));
        }
        DUE.noSuch(name + " " + want.length, () -> look.at(want.length, 0));
        for (int wrong : WRONG) {
            DUE.noSuch(name + " " + wrong, () -> look.at(wrong, 0));
            DUE.noSuch(name + " what " + wrong, () -> look.at(0, wrong));
        }
    }
}
