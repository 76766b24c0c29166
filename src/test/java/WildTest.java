import java.util.Random;

/** The face's "throws": whatever numbers and texts come, a call throws what the document names for it, and nothing else. */
public final class WildTest {
    private static final Due DUE = new Due();
    private static final int[] WILD = {Integer.MIN_VALUE, Integer.MIN_VALUE + 1, -65536, -41, -7, -6, -5, -2, -1, 0, 0, 0, 1, 1, 1, 2, 2, 3, 4, 5, 6,
        7, 8, 9, 10, 11, 12, 29, 30, 31, 39, 40, 41, 60, 61, 64, 580, 600, 601, 65536, 0x7fff0000, Integer.MAX_VALUE - 1, Integer.MAX_VALUE};
    private static final String WORLD = "port 3;port 2 weight 0;port 1 weight 99;port 0;port 0;port 40;stones 0 20 9;stones 1 9 4;stones 2 11 0;"
        + "plain 8 0;picky 3 1;homesick 2 2;proud 8 3;plain 1 4;tariff square*month/(many-1)+(from<to);";

    public static void main(String[] args) {
        int runs = args.length > 0 ? Integer.parseInt(args[0]) : 300;
        for (int run = 0; run < runs; run++) {
            run(new Random(run), run);
        }
        DUE.end();
    }

    private static void run(Random random, int run) {
        CobblePorts x = run % 10 == 0 ? new CobblePorts() : Due.told(WORLD);
        for (int i = 0; i < 450; i++) {
            int[] n = {wild(random), wild(random), wild(random), wild(random), wild(random)};
            int which = random.nextInt(26);
            String outcome = Due.outcome(() -> call(x, which, n));
            boolean noSuch = which > 2 && outcome.equals("throws.NoSuchElementException");
            boolean illegal = (which == 1 || which == 20 || which == 21) && outcome.equals("throws.IllegalArgumentException");
            boolean due = noSuch || illegal || !outcome.startsWith("throws");
            DUE.is("run " + run + " call " + i + " of " + which, due ? "" : outcome, "");
        }
        DUE.is("stones", x.count(1), x.count(0) == 0 ? 0 : 40);
        DUE.is("voyages", x.count(3) <= 30 ? 1 : 0, 1);
        DUE.is("legs", x.count(4) <= 4 ? 1 : 0, 1);
        DUE.is("what was read", x.count(5) <= 10 ? 1 : 0, 1);
        DUE.is("bytes", x.count(8) <= 600 ? 1 : 0, 1);
    }

    private static int wild(Random random) {
        return random.nextInt(40) == 0 ? random.nextInt() : WILD[random.nextInt(WILD.length)];
    }

    private static int call(CobblePorts x, int which, int[] n) {
        switch (which) {
            case 0: return x.feed(n[0], n[1], n[2], n[3], n[4]);
            case 1: return n[1] % 5 == 0 ? x.world(n[0]) : 0;
            case 2: return x.fault() + x.undo();
            case 3: return x.count(n[0]);
            case 4: return x.port(n[0], n[1]);
            case 5: return x.stone(n[0], n[1]);
            case 6: return x.street(n[0], n[1]);
            case 7: return x.ship(n[0], n[1]);
            case 8: return x.voyage(n[0], n[1]);
            case 9: return x.gap(n[0], n[1]);
            case 10: return x.met(n[0], n[1]);
            case 11: return x.horse(n[0], n[1]);
            case 12: return x.leg(n[0], n[1]);
            case 13: return x.best(n[0]);
            case 14: return x.read(n[0], n[1], n[2]);
            case 15: return n[0] % 3 == 0 ? x.fits() : 0;
            case 16: return x.load(n[0]);
            case 17: return unit(x, n[0]);
            case 18: return x.restore() ? 1 : 0;
            case 19: return x.sail(Math.abs(n[0] % 5), Math.abs(n[1] % 6), Math.abs(n[2] % 3));
            case 20: return x.took(n[0], n[1], n[2], n[3], n[4]);
            case 21: return x.flood(n[0], n[1], n[2]);
            default: return x.sail(n[0], n[1], n[2]);
        }
    }

    private static int unit(CobblePorts x, int n) {
        if (n % 2 == 0) {
            x.forget();
        } else {
            x.image();
        }
        return 0;
    }
}
