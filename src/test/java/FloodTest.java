/** Promises 22 to 25: took, flood, image, restore. */
public final class FloodTest {
    private static final Due DUE = new Due();

    public static void main(String[] args) {
        odds();
        wrongOdds();
        floods();
        wrongFloods();
        floodsAndUndo();
        images();
        imagesOfRoutes();
        imageOfThirty();
        DUE.end();
    }

    private static void odds() {
        CobblePorts x = Due.told("port 0;port 0 weight 4;port 0 weight 6;port 0 weight 0;stones 0 9 1;plain 2 0;plain 2 0;plain 2 0;plain 2 0;");
        x.sail(0, 1, 0);
        x.sail(1, 2, 0);
        x.sail(0, 0, 2);
        x.sail(0, 2, 0);
        x.sail(2, 3, 0);
        x.sail(3, 1, 2);
        fraction(x, new int[] {0, 0, 0, 6}, 5, 8);
        fraction(x, new int[] {0, 1, 0, 6}, 3, 8);
        fraction(x, new int[] {0, 2, 0, 6}, 0, 1);
        fraction(x, new int[] {0, 3, 0, 6}, 0, 1);
        fraction(x, new int[] {0, 0, 0, 2}, 2, 5);
        fraction(x, new int[] {0, 0, 1, 4}, 1, 2);
        fraction(x, new int[] {0, 0, 3, 4}, 1, 1);
        fraction(x, new int[] {0, 2, 4, 5}, 0, 1);
        fraction(x, new int[] {0, 3, 5, 6}, 0, 1);
        fraction(x, new int[] {1, 0, 0, 6}, 0, 1);
        fraction(x, new int[] {3, 0, 0, 6}, 0, 1);
        x.undo();
        DUE.illegal("an undone voyage", () -> x.took(0, 0, 0, 6, 0));
        fraction(x, new int[] {0, 0, 0, 5}, 5, 8);
    }

    private static void fraction(CobblePorts x, int[] asked, int upper, int lower) {
        String name = "took " + asked[0] + " " + asked[1] + " " + asked[2] + " " + asked[3];
        DUE.is(name + " upper", x.took(asked[0], asked[1], asked[2], asked[3], 0), upper);
        DUE.is(name + " lower", x.took(asked[0], asked[1], asked[2], asked[3], 1), lower);
    }

    private static void wrongOdds() {
        CobblePorts x = Due.told("port 0;port 0;stones 0 3 1;plain 1 0;");
        x.sail(0, 1, 0);
        DUE.noSuch("no port, ahead", () -> x.took(2, 0, 1, 1, 0));
        DUE.noSuch("no ship, ahead", () -> x.took(0, 1, 1, 1, 0));
        DUE.noSuch("no what, ahead", () -> x.took(0, 0, 1, 1, 2));
        DUE.noSuch("no what below, ahead", () -> x.took(0, 0, 0, 9, -1));
        DUE.illegal("not more", () -> x.took(0, 0, 1, 1, 0));
        DUE.illegal("fewer", () -> x.took(0, 0, 1, 0, 1));
        DUE.illegal("not so many", () -> x.took(0, 0, 0, 2, 0));
        DUE.illegal("below 0", () -> x.took(0, 0, -1, 1, 0));
        DUE.illegal("far", () -> x.took(0, 0, Integer.MIN_VALUE, Integer.MAX_VALUE, 0));
        DUE.is("as it should be", x.took(0, 0, 0, 1, 0), 1);
    }

    private static void floods() {
        CobblePorts x = Due.told("port 0;port 0;port 0;stones 0 7 1;stones 1 1 1;");
        DUE.is("none", x.flood(0, 5, 0), 0);
        DUE.is("street as it was", Due.street(x, 0), "0 1 2 3 4 5 6");
        int[] street = {0, 1, 2, 3, 4, 5, 6};
        for (int seed : new int[] {0, 1, -1, 12345, Integer.MIN_VALUE, Integer.MAX_VALUE, -987654321}) {
            for (int many : new int[] {1, 2, 60}) {
                swap(street, seed, many);
                DUE.is("flood " + seed + " " + many, x.flood(0, seed, many), street[0]);
                for (int place = 0; place < street.length; place++) {
                    DUE.is("place " + place, x.street(0, place), street[place]);
                    DUE.is("stone's place", x.stone(street[place], 3), place);
                }
            }
        }
        DUE.is("of one stone", x.flood(1, 5, 60), 7);
        DUE.is("of none", x.flood(2, 5, 60), -1);
        DUE.is("of none, none", x.flood(2, 5, 0), -1);
    }

    /* In longs, from the document's words. */
    private static void swap(int[] street, int seed, int many) {
        long drawn = seed & 0xffffffffL;
        int[] at = new int[2];
        for (int i = 0; i < many; i++) {
            for (int k = 0; k < 2; k++) {
                drawn = (drawn * 1103515245L + 12345L) & 0xffffffffL;
                at[k] = (int) ((drawn / 65536) % 32768 % street.length);
            }
            int stone = street[at[0]];
            street[at[0]] = street[at[1]];
            street[at[1]] = stone;
        }
    }

    private static void wrongFloods() {
        CobblePorts x = Due.told("port 0;port 0;stones 0 3 1;plain 1 0;");
        x.sail(0, 1, 0);
        DUE.noSuch("no port, ahead", () -> x.flood(2, 0, 61));
        DUE.noSuch("no port below", () -> x.flood(-1, 0, -1));
        DUE.illegal("too many", () -> x.flood(0, 0, 61));
        DUE.illegal("below 0", () -> x.flood(0, 0, -1));
        DUE.illegal("far too many", () -> x.flood(0, 0, Integer.MAX_VALUE));
        DUE.is("it can be undone still", x.undo(), 0);
    }

    private static void floodsAndUndo() {
        CobblePorts x = Due.told("port 0;port 0;stones 0 3 1;plain 1 0;");
        x.sail(0, 1, 0);
        x.flood(0, 9, 0);
        DUE.is("behind no floods", x.undo(), 0);
        x.sail(0, 1, 0);
        x.flood(1, 9, 1);
        DUE.is("behind a flood in which nothing happened", x.undo(), -1);
        DUE.is("the voyage stands", x.count(3), 1);
        x.sail(0, 0, 0);
        x.sail(0, 1, 0);
        DUE.is("behind the flood", x.undo(), 2);
        DUE.is("behind the flood, one more", x.undo(), 1);
        DUE.is("no more", x.undo(), -1);
        DUE.is("that isn't counted", x.count(10), 0);
        DUE.is("a new world", Due.tell(x, "port 0;port 0;stones 0 1 1;plain 1 0;"), 0);
        x.sail(0, 1, 0);
        DUE.is("is undone from its first voyage on", x.undo(), 0);
    }

    private static void images() {
        CobblePorts x = Due.told("port 0;port 9;stones 0 4 1;stones 0 1 7;picky 2 0;plain 1 0;tariff square;");
        DUE.is("none", x.restore() ? 1 : 0, 0);
        x.sail(0, 1, 0);
        x.sail(1, 1, 0);
        x.image();
        x.undo();
        x.undo();
        x.sail(1, 1, 0);
        x.sail(1, 1, 0);
        x.flood(0, 3, 5);
        x.sail(0, 1, 1);
        x.sail(0, 0, 0);
        x.sail(0, 1, 0);
        DUE.is("again", x.restore() ? 1 : 0, 1);
        DUE.is("street 0", Due.street(x, 0), "0 1");
        DUE.is("street 1", Due.street(x, 1), "4 3 2");
        DUE.is("voyages", x.count(3), 2);
        DUE.is("toll", x.count(7), 9);
        DUE.is("status", x.count(10), 0);
        DUE.is("price 0", x.port(0, 4), 8);
        DUE.is("price 1", x.port(1, 4), 12);
        DUE.is("ship 0", x.ship(0, 3), 1);
        DUE.is("led", x.stone(4, 4), 0);
        DUE.is("can be undone", x.undo(), 1);
        DUE.is("can be undone, all", x.undo(), 0);
        DUE.is("street as at first", Due.street(x, 0), "0 1 2 3 4");
        DUE.is("once more", x.restore() ? 1 : 0, 1);
        DUE.is("voyages once more", x.count(3), 2);
        x.flood(1, 1, 1);
        x.image();
        x.sail(0, 0, 0);
        x.restore();
        DUE.is("in place of the other one", x.undo(), -1);
        x.restore();
        DUE.is("the flood is in it", x.undo(), -1);
        x.sail(0, 0, 9);
        x.image();
        x.restore();
        DUE.is("status in it", x.count(10), 1);
    }

    private static void imagesOfRoutes() {
        CobblePorts x = Due.told("port 0;port 1;stones 0 4 1;plain 2 0;");
        x.leg(0, 1);
        x.read(1, 0, 1);
        x.read(1, 0, 99);
        x.image();
        x.fits();
        DUE.is("loads of the first route", x.load(0), 1);
        x.forget();
        x.leg(0, 1);
        x.leg(0, 0);
        x.read(0, 0, 4);
        x.read(0, 0, 99);
        DUE.is("loads of the second route", x.fits(), 6);
        Due.feed(x, "port");
        x.restore();
        DUE.is("legs", x.count(4), 1);
        DUE.is("read", x.count(5), 1);
        DUE.is("status", x.count(11), 1);
        DUE.is("the tape isn't in it", x.count(8), 20);
        DUE.is("loads aren't in it", x.load(1), 0);
        DUE.is("it fits again", x.fits(), 1);
        DUE.is("the load again", x.load(0), 1);
        DUE.noSuch("of one leg", () -> x.load(1));
        x.forget();
        x.read(1, 1, 4);
        x.read(0, 1, 4);
        x.restore();
        DUE.is("the origin that was read", x.fits(), 1);
    }

    private static void imageOfThirty() {
        CobblePorts x = Due.told("port 40;port 0;stones 0 3 1;plain 2 0;");
        for (int i = 0; i < 30; i++) {
            x.sail(0, 1 - (i & 1), i % 3);
        }
        int price = x.port(0, 4);
        String street = Due.street(x, 0);
        x.image();
        for (int i = 0; i < 30; i++) {
            x.undo();
        }
        x.flood(0, 3, 9);
        for (int i = 0; i < 30; i++) {
            x.sail(0, 1 - (i & 1), 2 - i % 2);
        }
        x.restore();
        DUE.is("price behind thirty", x.port(0, 4), price);
        DUE.is("street behind thirty", Due.street(x, 0), street);
        for (int i = 29; i >= 0; i--) {
            DUE.is("undone " + i, x.undo(), i);
        }
        DUE.is("street at first", Due.street(x, 0), "0 1 2");
    }
}
