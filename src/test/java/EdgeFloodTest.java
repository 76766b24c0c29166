/** The boundary cases of promises 22 to 25, and of WHO TOOK A STEP, FLOODS and AN IMAGE, sentence by sentence. */
public final class EdgeFloodTest {
    private static final Due DUE = new Due();
    private static final int[] FAR = {-1, Integer.MIN_VALUE, Integer.MAX_VALUE, 1 << 16, -41};

    public static void main(String[] args) {
        thoseBetween();
        fromThatPort();
        thatTookStones();
        nobodyCould();
        lowestTerms();
        largestWeights();
        tookNoSuch();
        tookNotSoMany();
        tookUndone();
        howManyFloods();
        fewerThanTwo();
        twoStones();
        fortyStones();
        seedsThatWrap();
        theFirstThen();
        cannotBeUndone();
        floodedAndRestored();
        noImage();
        inPlaceOfAnother();
        allThatItKeeps();
        whatItKeepsNot();
        imageOfNothing();
        imageOfAll();
        tenThatWereRead();
        ownStones();
        DUE.end();
    }

    /* SHIPS 0 and 1 sail from PORT 0 by turns: weights 3 and 5. */
    private static CobblePorts turns() {
        CobblePorts x = Due.told("port 0;port 0 weight 3;port 0 weight 5;stones 0 9 1;plain 1 0;plain 1 0;");
        x.sail(0, 1, 0);
        x.sail(1, 2, 0);
        x.sail(0, 0, 1);
        x.sail(1, 0, 1);
        x.sail(0, 2, 0);
        x.sail(1, 1, 0);
        return x;
    }

    private static void thoseBetween() {
        DUE.about("behind a VOYAGE (or at first) and doesn't behind a later one: each VOYAGE of those between");
        CobblePorts x = turns();
        took(x, 0, 0, 0, 1, "1/1");
        took(x, 0, 1, 0, 1, "0/1");
        took(x, 0, 0, 0, 2, "3/8");
        took(x, 0, 1, 0, 2, "5/8");
        took(x, 0, 0, 1, 2, "0/1");
        took(x, 0, 1, 1, 2, "1/1");
        took(x, 0, 0, 1, 4, "0/1");
        took(x, 0, 1, 1, 4, "1/1");
        took(x, 0, 0, 1, 5, "1/2");
        took(x, 0, 0, 4, 5, "1/1");
        took(x, 0, 0, 4, 6, "5/8");
        took(x, 0, 1, 5, 6, "1/1");
        took(x, 0, 0, 0, 6, "1/2");
        took(x, 0, 1, 0, 6, "1/2");
        took(x, 0, 0, 0, 5, "8/13");
        took(x, 0, 1, 0, 5, "5/13");
    }

    private static void fromThatPort() {
        DUE.about("each VOYAGE of those between from that PORT");
        CobblePorts x = Due.told("port 0;port 0;port 0 weight 7;stones 0 3 1;stones 1 3 1;plain 1 0;plain 1 1;plain 1 2;");
        x.sail(0, 2, 0);
        x.sail(1, 2, 0);
        x.sail(2, 0, 0);
        took(x, 0, 0, 0, 3, "1/1");
        took(x, 1, 0, 0, 3, "0/1");
        took(x, 1, 1, 0, 3, "1/1");
        took(x, 2, 2, 0, 3, "1/1");
        took(x, 2, 0, 0, 3, "0/1");
    }

    private static void thatTookStones() {
        DUE.about("that took STONES may have");
        CobblePorts x = Due.told("port 0;port 0;stones 0 2 1;plain 1 0;plain 1 0;plain 2 0;");
        x.sail(0, 1, 1);
        x.sail(1, 1, 0);
        took(x, 0, 0, 0, 2, "0/1");
        took(x, 0, 1, 0, 2, "1/1");
        x.sail(2, 1, 0);
        took(x, 0, 2, 0, 3, "1/2");
        x.sail(0, 0, 0);
        x.sail(0, 1, 0);
        x.sail(1, 0, 1);
        x.sail(1, 1, 0);
        DUE.is("none was there to take", x.voyage(6, 4), 0);
        took(x, 0, 1, 5, 7, "0/1");
        took(x, 0, 1, 0, 7, "1/3");
    }

    private static void nobodyCould() {
        DUE.about("Promise 22: 0 by 1, if nobody could, or all WEIGHTS are 0");
        CobblePorts x = Due.told("port 0;port 0 weight 0;port 0 weight 2;stones 0 5 1;plain 1 0;plain 1 0;");
        x.sail(0, 1, 0);
        took(x, 0, 0, 0, 1, "0/1");
        took(x, 0, 1, 0, 1, "0/1");
        took(x, 2, 0, 0, 1, "0/1");
        x.sail(1, 2, 0);
        took(x, 0, 0, 0, 2, "0/1");
        took(x, 0, 1, 0, 2, "1/1");
        CobblePorts none = Due.told("port 0;port 0;plain 1 0;");
        none.sail(0, 1, 0);
        took(none, 0, 0, 0, 1, "0/1");
    }

    private static void lowestTerms() {
        DUE.about("as a fraction in lowest terms");
        int[][] weights = {{2, 4}, {6, 9}, {99, 99}, {98, 99}, {1, 99}, {99, 33}, {64, 48}, {0, 9}, {9, 0}, {97, 89}, {21, 34}, {55, 89}};
        String[] want = {"1/3", "2/5", "1/2", "98/197", "1/100", "3/4", "4/7", "0/1", "1/1", "97/186", "21/55", "55/144"};
        for (int i = 0; i < weights.length; i++) {
            CobblePorts x = Due.told("port 0;port 0 weight " + weights[i][0] + ";port 0 weight " + weights[i][1]
                + ";stones 0 5 1;plain 1 0;plain 1 0;");
            x.sail(0, 1, 0);
            x.sail(1, 2, 0);
            took(x, 0, 0, 0, 2, want[i]);
        }
    }

    private static void largestWeights() {
        DUE.about("by WEIGHTS of PORTS to which they went: thirty of 99");
        CobblePorts x = Due.told("port 0 weight 99;port 0 weight 99;port 0 weight 98;stones 0 4 1;stones 1 4 1;plain 1 0;plain 1 0;");
        for (int i = 0; i < 15; i++) {
            x.sail(0, 1 - (i & 1), 0);
            x.sail(1, i % 2 == 0 ? 2 : 0, 0);
        }
        took(x, 0, 0, 0, 30, "99/197");
        took(x, 1, 0, 0, 30, "1/1");
        took(x, 2, 1, 0, 30, "1/1");
    }

    private static void tookNoSuch() {
        DUE.about("Promise 22: NoSuchElementException: also another what. IllegalArgumentException (behind that)");
        CobblePorts x = turns();
        DUE.noSuch("what 2", () -> x.took(0, 0, 0, 1, 2));
        DUE.noSuch("what 2, ahead", () -> x.took(0, 0, 9, 1, 2));
        DUE.noSuch("port 3, ahead", () -> x.took(3, 0, 1, 1, 0));
        DUE.noSuch("ship 2, ahead", () -> x.took(0, 2, 1, 1, 0));
        for (int wrong : FAR) {
            DUE.noSuch("what " + wrong, () -> x.took(0, 0, 0, 1, wrong));
            DUE.noSuch("what ahead " + wrong, () -> x.took(0, 0, 0, 99, wrong));
            DUE.noSuch("port " + wrong, () -> x.took(wrong, 0, 0, 1, 0));
            DUE.noSuch("port ahead " + wrong, () -> x.took(wrong, 0, 2, 1, 0));
            DUE.noSuch("ship " + wrong, () -> x.took(0, wrong, 0, 1, 0));
            DUE.noSuch("ship ahead " + wrong, () -> x.took(0, wrong, -1, 1, 0));
        }
    }

    private static void tookNotSoMany() {
        DUE.about("Promise 22: IllegalArgumentException: VOYAGES are not so many, the second not more than the first");
        CobblePorts x = turns();
        for (int what = 0; what < 2; what++) {
            int w = what;
            DUE.illegal("seven of six", () -> x.took(0, 0, 0, 7, w));
            DUE.illegal("seven and eight", () -> x.took(0, 0, 7, 8, w));
            DUE.illegal("six and seven", () -> x.took(0, 0, 6, 7, w));
            DUE.illegal("six and six", () -> x.took(0, 0, 6, 6, w));
            DUE.illegal("none and none", () -> x.took(0, 0, 0, 0, w));
            DUE.illegal("two and one", () -> x.took(0, 0, 2, 1, w));
            DUE.illegal("one and none", () -> x.took(0, 0, 1, 0, w));
            DUE.illegal("below 0", () -> x.took(0, 0, -1, 1, w));
            DUE.illegal("both below 0", () -> x.took(0, 0, -2, -1, w));
            DUE.illegal("the least", () -> x.took(0, 0, Integer.MIN_VALUE, 1, w));
            DUE.illegal("the most", () -> x.took(0, 0, 0, Integer.MAX_VALUE, w));
            DUE.illegal("the most, twice", () -> x.took(0, 0, Integer.MAX_VALUE, Integer.MAX_VALUE, w));
            DUE.illegal("the least and the most", () -> x.took(0, 0, Integer.MIN_VALUE, Integer.MAX_VALUE, w));
        }
        CobblePorts none = Due.told("port 0;plain 1 0;");
        DUE.illegal("of no voyages", () -> none.took(0, 0, 0, 0, 0));
        DUE.illegal("one of no voyages", () -> none.took(0, 0, 0, 1, 0));
    }

    private static void tookUndone() {
        DUE.about("WHO TOOK A STEP: UNDONE VOYAGES count no more");
        CobblePorts x = turns();
        x.undo();
        DUE.illegal("the undone one", () -> x.took(0, 0, 0, 6, 0));
        took(x, 0, 0, 4, 5, "1/1");
        took(x, 0, 0, 0, 5, "8/13");
    }

    private static void howManyFloods() {
        DUE.about("Promise 23: FLOODS (0 to 60). IllegalArgumentException (behind NoSuchElementException): how many");
        CobblePorts x = Due.told("port 0;port 0;stones 0 5 1;plain 1 0;");
        x.sail(0, 1, 0);
        String ahead = Due.dump(x);
        DUE.illegal("61", () -> x.flood(0, 1, 61));
        DUE.noSuch("61 in no port", () -> x.flood(2, 1, 61));
        for (int wrong : FAR) {
            DUE.illegal("floods " + wrong, () -> x.flood(0, 1, wrong));
            DUE.illegal("floods of one stone " + wrong, () -> x.flood(1, 1, wrong));
            DUE.noSuch("port " + wrong, () -> x.flood(wrong, 1, wrong));
        }
        DUE.is("none", x.flood(0, 1, 0), 0);
        DUE.is("nothing changes", Due.dump(x), ahead);
        DUE.is("not even what can be undone", x.undo(), 0);
        int[] street = {0, 1, 2, 3, 4};
        for (int floods : new int[] {1, 59, 60}) {
            swap(street, 77, floods);
            DUE.is("floods " + floods, x.flood(0, 77, floods), street[0]);
            DUE.is("street " + floods, Due.street(x, 0), text(street));
        }
    }

    private static void fewerThanTwo() {
        DUE.about("FLOODS: with fewer than 2 STONES there nothing happens");
        CobblePorts x = Due.told("port 0;port 0;port 0;stones 0 1 1;stones 1 3 1;plain 1 0;");
        String ahead = Due.dump(x);
        DUE.is("one", x.flood(0, -5, 60), 0);
        DUE.is("none", x.flood(2, -5, 60), -1);
        DUE.is("nothing happens", Due.dump(x), ahead);
        DUE.about("Promise 23: the first STONE of the STREET then; NONE: there is none");
        DUE.is("of none, without floods", x.flood(2, 0, 0), -1);
        DUE.is("of one, without floods", x.flood(0, 0, 0), 0);
        DUE.is("of three, without floods", x.flood(1, 0, 0), 1);
        x.sail(0, 2, 0);
        DUE.is("where one was taken", x.flood(0, 9, 1), -1);
        DUE.is("where one was laid", x.flood(2, 9, 1), 0);
    }

    private static void twoStones() {
        DUE.about("FLOODS: two places of its STREET are drawn, each by a DRAW, and these STONES change places: two STONES");
        boolean[] seen = new boolean[2];
        for (int seed = 0; seed < 12; seed++) {
            CobblePorts x = Due.told("port 0;port 0;stones 0 2 1;");
            int[] street = {0, 1};
            swap(street, seed, 1);
            DUE.is("seed " + seed, x.flood(0, seed, 1), street[0]);
            DUE.is("street " + seed, Due.street(x, 0), text(street));
            seen[street[0]] = true;
        }
        DUE.is("both came", seen[0] && seen[1] ? 1 : 0, 1);
    }

    private static void fortyStones() {
        DUE.about("FLOODS: by a DRAW of how many STONES lie there: forty STONES");
        CobblePorts x = Due.told("port 0;stones 0 20 1;stones 0 20 1;");
        int[] street = new int[40];
        for (int i = 0; i < 40; i++) {
            street[i] = i;
        }
        swap(street, 4711, 60);
        DUE.is("the first", x.flood(0, 4711, 60), street[0]);
        DUE.is("street", Due.street(x, 0), text(street));
        for (int place = 0; place < 40; place++) {
            DUE.is("place of " + street[place], x.stone(street[place], 3), place);
        }
    }

    private static void seedsThatWrap() {
        DUE.about("A seed becomes itself times 1103515245 and 12345 (an int that wraps); a DRAW of n is its bits 16 to 30 MOD n then");
        int[] seeds = {0, 1, -1, 2, -2, Integer.MAX_VALUE, Integer.MIN_VALUE, 0x40000000, 0x00010000, 0x7fff0000, 0x80000000 + 5, 123456789};
        for (int n : new int[] {2, 3, 7, 31}) {
            for (int seed : seeds) {
                CobblePorts x = Due.told("port 0;stones 0 1 1;" + (n > 20 ? "stones 0 20 1;" : "") + "stones 0 " + ((n - 1) % 20) + " 1;");
                int[] street = new int[n];
                for (int i = 0; i < n; i++) {
                    street[i] = i;
                }
                swap(street, seed, 3);
                DUE.is("seed " + seed + " of " + n, x.flood(0, seed, 3), street[0]);
                DUE.is("street " + seed + " of " + n, Due.street(x, 0), text(street));
            }
        }
    }

    private static void theFirstThen() {
        DUE.about("FLOODS change STREETS alone, of that PORT alone");
        CobblePorts x = Due.told("port 1;port 9;stones 0 3 1;stones 1 3 7;plain 1 0;tariff 3;");
        x.sail(0, 1, 0);
        String[] ahead = Due.dump(x).split("\n");
        x.flood(1, 3, 7);
        String[] then = Due.dump(x).split("\n");
        for (int i = 0; i < ahead.length; i++) {
            String line = ahead[i];
            boolean moved = line.startsWith("street 3 4 5 2") || line.startsWith("horses") || line.matches("stone . . 1 .*");
            DUE.is("line " + i, moved ? "" : then[i], moved ? "" : line);
        }
        DUE.is("as many lines", then.length, ahead.length);
    }

    private static void cannotBeUndone() {
        DUE.about("VOYAGES ahead of FLOODS (of one or more, whatever happened) can't be UNDONE");
        for (int floods : new int[] {1, 2, 60}) {
            for (int port = 0; port < 3; port++) {
                CobblePorts x = Due.told("port 0;port 0;port 0;stones 0 3 1;plain 1 0;");
                x.sail(0, 1, 0);
                x.flood(port, 5, floods);
                String ahead = Due.dump(x);
                DUE.is("in port " + port, x.undo(), -1);
                DUE.is("nothing changes", Due.dump(x), ahead);
                x.sail(0, 0, 0);
                DUE.is("one behind them", x.undo(), 1);
                DUE.is("no more", x.undo(), -1);
            }
        }
        CobblePorts x = Due.told("port 0;port 0;stones 0 3 1;plain 1 0;");
        x.flood(0, 1, 1);
        x.sail(0, 1, 0);
        DUE.is("floods ahead of the first", x.undo(), 0);
        x.sail(0, 1, 0);
        x.sail(0, 0, 0);
        x.undo();
        x.flood(0, 1, 1);
        x.sail(0, 0, 0);
        x.sail(0, 1, 0);
        DUE.is("two behind", x.undo(), 2);
        DUE.is("one behind", x.undo(), 1);
        DUE.is("none behind", x.undo(), -1);
        x.flood(0, 1, 0);
        x.sail(0, 0, 0);
        DUE.is("no floods", x.undo(), 1);
        CobblePorts full = Due.told("port 0;port 0;stones 0 3 1;plain 1 0;");
        for (int i = 0; i < 30; i++) {
            full.sail(0, 1 - (i & 1), 0);
        }
        full.flood(1, 1, 1);
        DUE.is("thirty", full.undo(), -1);
        DUE.is("are full", full.sail(0, 1, 0), -1);
    }

    private static void floodedAndRestored() {
        DUE.about("AN IMAGE keeps VOYAGES (and which can be UNDONE)");
        CobblePorts x = Due.told("port 0;port 0;stones 0 3 1;plain 1 0;");
        x.sail(0, 1, 0);
        x.image();
        x.flood(0, 1, 1);
        DUE.is("flooded", x.undo(), -1);
        x.restore();
        DUE.is("ahead of the flood", x.undo(), 0);
        x.restore();
        x.flood(0, 1, 1);
        x.image();
        x.sail(0, 0, 0);
        x.restore();
        DUE.is("behind the flood", x.undo(), -1);
        x.sail(0, 0, 0);
        DUE.is("a new one", x.undo(), 1);
    }

    private static void noImage() {
        DUE.about("Promise 25: False: there is none");
        CobblePorts x = new CobblePorts();
        DUE.is("of a new object", x.restore() ? 1 : 0, 0);
        Due.tell(x, "port 0;port 0;stones 0 3 1;plain 1 0;");
        x.sail(0, 1, 0);
        x.leg(0, 0);
        String ahead = Due.dump(x);
        DUE.is("of a world", x.restore() ? 1 : 0, 0);
        DUE.is("nothing changes", Due.dump(x), ahead);
        x.image();
        DUE.is("one", x.restore() ? 1 : 0, 1);
        DUE.is("it stays", x.restore() ? 1 : 0, 1);
        Due.tell(x, "?");
        DUE.is("a fault takes it not", x.restore() ? 1 : 0, 1);
        Due.tell(x, "port 0;port 0;stones 0 3 1;plain 1 0;");
        DUE.is("a world takes it", x.restore() ? 1 : 0, 0);
        DUE.is("no voyage came from it", x.count(3), 0);
        x.image();
        x.world(0);
        DUE.is("an empty world takes it", x.restore() ? 1 : 0, 0);
    }

    private static void inPlaceOfAnother() {
        DUE.about("Promise 24: AN IMAGE is kept, in place of another one");
        CobblePorts x = Due.told("port 0;port 0;stones 0 3 1;plain 1 0;");
        x.sail(0, 1, 0);
        x.image();
        x.undo();
        x.image();
        x.sail(0, 1, 1);
        x.restore();
        DUE.is("the second one", x.count(3), 0);
        DUE.is("its street", Due.street(x, 0), "0 1 2");
        x.sail(0, 1, 0);
        x.restore();
        DUE.is("twice", x.count(3), 0);
        DUE.is("its ship", x.ship(0, 3), 0);
    }

    private static CobblePorts busy() {
        CobblePorts x = Due.told("port 2;port 5 weight 4;port 0 weight 9;stones 0 3 1;stones 1 2 8;picky 2 0;homesick 3 1;tariff square*month+to;");
        x.sail(0, 1, 0);
        x.sail(1, 2, 1);
        x.sail(1, 2, 0);
        x.flood(1, 9, 3);
        x.sail(0, 2, 0);
        x.leg(0, 0);
        x.leg(1, 1);
        x.read(0, 0, 2);
        x.read(1, 1, 99);
        Due.tell(x, "?");
        return x;
    }

    /* Other voyages in place of those, other legs, other things read. */
    private static void stirUp(CobblePorts x) {
        x.undo();
        x.flood(2, 4, 9);
        x.sail(1, 0, 0);
        x.sail(0, 0, 2);
        x.sail(0, 0, 0);
        x.sail(0, 2, 1);
        x.forget();
        x.leg(1, 2);
        x.leg(0, 1);
        x.leg(0, 0);
        x.read(2, 1, 1);
        x.read(1, 0, 0);
        x.read(1, 0, -1);
        x.flood(0, 4, 9);
    }

    private static void allThatItKeeps() {
        DUE.about("AN IMAGE keeps all STREETS, SHIPS, VOYAGES (and which can be UNDONE), PRICES, LEGS, what was READ, STATUS");
        CobblePorts x = busy();
        x.image();
        stirUp(x);
        DUE.is("restored", x.restore() ? 1 : 0, 1);
        DUE.is("as it was", Due.dump(x), Due.dump(busy()));
        CobblePorts y = busy();
        CobblePorts z = busy();
        z.image();
        stirUp(z);
        z.restore();
        DUE.is("legs and what was read", z.fits(), y.fits());
        DUE.is("their loads", Due.outcome(() -> z.load(0)) + Due.outcome(() -> z.load(1)), Due.outcome(() -> y.load(0)) + Due.outcome(() -> y.load(1)));
        for (int port = 0; port < 3; port++) {
            DUE.is("best for " + port, z.best(port), y.best(port));
        }
        DUE.is("what can be undone", z.undo(), 2);
        DUE.is("what can't", z.undo(), -1);
        y.undo();
        y.best(0);
        z.best(0);
        DUE.is("what undone ones leave", Due.dump(z), Due.dump(y));
    }

    private static void whatItKeepsNot() {
        DUE.about("AN IMAGE keeps not the tape, the FAULT's place, LOADS that are kept");
        CobblePorts x = Due.told("port 0;port 1;stones 0 3 1;plain 2 0;");
        x.leg(0, 1);
        x.image();
        DUE.is("best", x.best(1), 0);
        Due.tell(x, "port 1;?");
        Due.feed(x, "port 7;");
        x.restore();
        DUE.is("loads", x.load(0), 1);
        DUE.is("fault", x.fault(), 7);
        DUE.is("tape", x.count(8), 20);
        DUE.is("it is told", x.world(7), 0);
        DUE.is("need", x.port(0, 0), 7);
    }

    private static void imageOfNothing() {
        DUE.about("Promise 24: AN IMAGE is kept: of nothing");
        CobblePorts x = new CobblePorts();
        x.image();
        DUE.is("restored", x.restore() ? 1 : 0, 1);
        DUE.is("no ports", x.count(0), 0);
        Due.tell(x, "?");
        DUE.is("a fault", x.count(9), 1);
        x.restore();
        DUE.is("status as it was", x.count(9), 0);
        Due.tell(x, "port 3;");
        DUE.is("gone by a world", x.restore() ? 1 : 0, 0);
        DUE.is("ports", x.count(0), 1);
    }

    private static void imageOfAll() {
        DUE.about("AN IMAGE keeps all: thirty VOYAGES, four LEGS, ten that were READ, six PORTS, forty STONES");
        CobblePorts x = Due.told("port 9;port 9;port 9;port 9;port 9;port 9;stones 0 20 1;stones 5 20 2;plain 8 0;plain 8 0;picky 8 5;tariff 2;");
        sailThirty(x, 0);
        for (int i = 0; i < 10; i++) {
            x.read(i % 6, i % 2 * 5, i);
        }
        x.leg(2, 0);
        x.leg(1, 1);
        x.leg(2, 2);
        x.leg(1, 3);
        x.image();
        for (int i = 0; i < 30; i++) {
            x.undo();
        }
        x.flood(5, 3, 9);
        sailThirty(x, 8);
        x.forget();
        x.leg(0, 0);
        x.restore();
        DUE.is("legs", x.count(4), 4);
        DUE.is("read", x.count(5), 10);
        CobblePorts same = Due.told("port 9;port 9;port 9;port 9;port 9;port 9;stones 0 20 1;stones 5 20 2;plain 8 0;plain 8 0;picky 8 5;tariff 2;");
        sailThirty(same, 0);
        DUE.is("as it was", shortDump(x), shortDump(same));
        for (int i = 29; i >= 0; i--) {
            DUE.is("undone", x.undo(), i);
            same.undo();
            DUE.is("price 0 behind " + i, x.port(0, 4), same.port(0, 4));
            DUE.is("price 5 behind " + i, x.port(5, 4), same.port(5, 4));
        }
        DUE.is("street 0", Due.street(x, 0), "0 1 2 3 4 5 6 7 8 9 10 11 12 13 14 15 16 17 18 19");
        DUE.is("street 5 begins", x.street(5, 0), 20);
        DUE.is("street 5 ends", x.street(5, 19), 39);
    }

    /* Each SHIP goes round by PORTS 0 .. 5. */
    private static void sailThirty(CobblePorts x, int cargo) {
        int[] at = {0, 0, 5};
        for (int i = 0; i < 30; i++) {
            int ship = i % 3;
            at[ship] = (at[ship] + 1 + i % 2) % 6;
            DUE.is("it sails", x.sail(ship, at[ship], cargo) >= 0 ? 1 : 0, 1);
        }
    }

    private static void tenThatWereRead() {
        DUE.about("AN IMAGE keeps what was READ: ten");
        for (int changed = 0; changed < 10; changed++) {
            CobblePorts x = Due.told("port 0;port 0;port 0;stones 0 3 1;stones 1 1 1;plain 3 0;");
            x.leg(0, 2);
            for (int i = 0; i < 10; i++) {
                x.read(i % 2, i % 2, 1);
            }
            x.image();
            for (int what = 0; what < 3; what++) {
                x.forget();
                for (int i = 0; i < 10; i++) {
                    boolean other = i == changed;
                    x.read(other && what == 0 ? 2 : i % 2, other && what == 1 ? 2 : i % 2, other && what == 2 ? 40 : 1);
                }
                DUE.is("others fit not", x.fits(), 0);
                x.restore();
                DUE.is("how many", x.count(5), 10);
                DUE.is("they fit", x.fits(), 1);
                DUE.is("their load", x.load(0), 1);
            }
        }
    }

    private static void ownStones() {
        DUE.about("AN IMAGE keeps all STREETS: which ORIGINS lie there");
        CobblePorts x = Due.told("port 0;port 0;port 0;port 0;port 0;port 0;stones 5 3 1;stones 4 2 1;plain 2 5;plain 1 4;");
        x.sail(0, 4, 1);
        x.leg(1, 5);
        x.read(4, 5, 1);
        x.read(5, 5, 2);
        x.read(5, 4, 0);
        x.image();
        x.sail(0, 3, 0);
        x.sail(1, 3, 0);
        x.restore();
        DUE.is("own of 5", x.port(5, 5), 2);
        DUE.is("own of 4", x.port(4, 5), 2);
        DUE.is("as many", x.port(4, 2), 3);
        DUE.is("own of 3", x.port(3, 5), 0);
        DUE.is("as read", x.fits(), 1);
        DUE.is("its load", x.load(0), 1);
    }

    /* Few enough calls that twice of it is far below 512. */
    private static String shortDump(CobblePorts x) {
        StringBuilder all = new StringBuilder();
        for (int port = 0; port < 6; port++) {
            all.append(Due.street(x, port)).append(" price ").append(x.port(port, 4)).append('\n');
        }
        for (int ship = 0; ship < 3; ship++) {
            all.append(x.ship(ship, 3)).append(' ');
        }
        return all.append(x.count(7)).append(' ').append(x.voyage(29, 4)).toString();
    }

    /* In longs, from the document's words. */
    private static void swap(int[] street, int seed, int many) {
        long drawn = seed & 0xffffffffL;
        int[] at = new int[2];
        for (int i = 0; i < many; i++) {
            for (int k = 0; k < 2; k++) {
                drawn = (drawn * 1103515245L + 12345L) % 4294967296L;
                at[k] = (int) (drawn / 65536 % 32768 % street.length);
            }
            int stone = street[at[0]];
            street[at[0]] = street[at[1]];
            street[at[1]] = stone;
        }
    }

    private static String text(int[] street) {
        StringBuilder row = new StringBuilder();
        for (int i = 0; i < street.length; i++) {
            row.append(i == 0 ? "" : " ").append(street[i]);
        }
        return row.toString();
    }

    private static void took(CobblePorts x, int port, int ship, int there, int gone, String want) {
        String name = "took " + port + " " + ship + " " + there + " " + gone;
        DUE.is(name, x.took(port, ship, there, gone, 0) + "/" + x.took(port, ship, there, gone, 1), want);
    }
}
