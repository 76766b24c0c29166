import java.nio.charset.StandardCharsets;
import java.util.ArrayList;
import java.util.Arrays;
import java.util.Collections;
import java.util.List;
import java.util.NoSuchElementException;

/** The document once more, as plainly and slowly as can be: every look replays all that happened since the world began. */
final class Model {
    /** All streets and prices behind some events. */
    private static final class Replay {
        final List<List<Integer>> streets = new ArrayList<>();
        final int[] prices = new int[6];
        final int[] shipAt = new int[5];
        final List<int[]> voyages = new ArrayList<>();
        final List<List<Integer>> laid = new ArrayList<>();
        final List<int[]> portsBehind = new ArrayList<>();
    }

    private StringBuilder tape = new StringBuilder();
    private ModelText world = new ModelText("");
    private int faultPlace = -1;
    private List<int[]> events = new ArrayList<>();
    private List<int[]> legs = new ArrayList<>();
    private List<int[]> reads = new ArrayList<>();
    private int[] status = new int[3];
    private int[] loads = null;
    private List<Object> kept = null;

    int feed(int... numbers) {
        if (tape.length() + 20 > 600) {
            return -1;
        }
        for (int n : numbers) {
            tape.append((char) (n >>> 24)).append((char) (n >>> 16 & 255)).append((char) (n >>> 8 & 255)).append((char) (n & 255));
        }
        return tape.length();
    }

    int world(int n) {
        if (n < 0 || n > tape.length()) {
            throw new IllegalArgumentException();
        }
        ModelText told = new ModelText(tape.substring(0, n));
        tape = new StringBuilder();
        faultPlace = told.place;
        if (told.fault != 0) {
            status[0]++;
            return told.fault;
        }
        world = told;
        events = new ArrayList<>();
        forget();
        loads = null;
        kept = null;
        return 0;
    }

    int fault() {
        return faultPlace;
    }

    int count(int what) {
        Replay r = replay(events);
        int toll = 0;
        for (int[] v : r.voyages) {
            toll += v[5];
        }
        return pick(what, world.ports.size(), world.stones.size(), world.ships.size(), r.voyages.size(), legs.size(), reads.size(),
            mud(r), toll, tape.length(), status[0], status[1], status[2]);
    }

    int port(int port, int what) {
        must(port, world.ports);
        Replay r = replay(events);
        List<Integer> street = r.streets.get(port);
        int own = many(r, port, port);
        int[] told = world.ports.get(port);
        return pick(what, told[0], told[1], street.size(), Math.max(0, told[0] - street.size()), r.prices[port], own);
    }

    int stone(int stone, int what) {
        must(stone, world.stones);
        Replay r = replay(events);
        int at = r.portsBehind.get(r.voyages.size())[stone];
        int led = -1;
        int been = 1 << world.stones.get(stone)[0];
        for (int v = 0; v < r.voyages.size(); v++) {
            if (r.laid.get(v).contains(stone)) {
                led = v;
                been |= 1 << r.voyages.get(v)[2];
            }
        }
        return pick(what, world.stones.get(stone)[0], world.stones.get(stone)[1], at, r.streets.get(at).indexOf(stone), led, been);
    }

    int street(int port, int place) {
        must(port, world.ports);
        List<Integer> street = replay(events).streets.get(port);
        must(place, street);
        return street.get(place);
    }

    int ship(int ship, int what) {
        must(ship, world.ships);
        int[] told = world.ships.get(ship);
        return pick(what, told[0], told[1], told[2], replay(events).shipAt[ship]);
    }

    int sail(int ship, int to, int cargo) {
        must(ship, world.ships);
        must(to, world.ports);
        Replay r = replay(events);
        if (r.voyages.size() == 30 || r.shipAt[ship] == to || cargo < 0 || cargo > world.ships.get(ship)[1]) {
            status[1]++;
            return -1;
        }
        events.add(new int[] {0, ship, to, cargo});
        return replay(events).voyages.get(r.voyages.size())[4];
    }

    int undo() {
        for (int i = events.size() - 1; i >= 0; i--) {
            if (events.get(i)[0] == 0) {
                events.remove(i);
                return replay(events).voyages.size();
            }
            if (events.get(i)[3] > 0) {
                return -1;
            }
        }
        return -1;
    }

    int voyage(int voyage, int what) {
        Replay r = replay(events);
        must(voyage, r.voyages);
        return pick(what, r.voyages.get(voyage));
    }

    int gap(int from, int to) {
        must(from, world.ports);
        must(to, world.ports);
        int gap = 0;
        for (int[] v : replay(events).voyages) {
            gap += v[1] == from && v[2] == to ? v[4] : 0;
            gap -= v[1] == to && v[2] == from ? v[4] : 0;
        }
        return gap;
    }

    int met(int stone, int other) {
        must(stone, world.stones);
        must(other, world.stones);
        List<int[]> behind = replay(events).portsBehind;
        for (int v = 0; v < behind.size() && stone != other; v++) {
            if (behind.get(v)[stone] == behind.get(v)[other]) {
                return v;
            }
        }
        return -1;
    }

    int horse(int port, int home) {
        must(port, world.ports);
        must(home, world.ports);
        List<Integer> street = replay(events).streets.get(port);
        int[] rest = new int[street.size() + 2];
        /* rest[i]: the least from the STONE i on, if it is trodden; the end costs nothing. */
        for (int i = street.size() - 1; i >= 0; i--) {
            int[] s = world.stones.get(street.get(i));
            rest[i] = 10 - s[1] + (s[0] != home ? 5 : 0) + Math.min(rest[i + 1], i + 2 > street.size() ? Integer.MAX_VALUE : rest[i + 2]);
        }
        return Math.min(rest[0], rest[1]);
    }

    int leg(int ship, int to) {
        must(ship, world.ships);
        must(to, world.ports);
        if (legs.size() == 4) {
            status[2]++;
            return -1;
        }
        legs.add(new int[] {ship, to});
        return legs.size();
    }

    void forget() {
        legs = new ArrayList<>();
        reads = new ArrayList<>();
    }

    int best(int port) {
        must(port, world.ports);
        int[] found = null;
        int[] key = null;
        for (int[] row : rows()) {
            Replay r = behindRoute(row);
            if (r == null || r.streets.get(port).size() < world.ports.get(port)[0]) {
                continue;
            }
            int[] its = {mud(r), -Arrays.stream(row).sum()};
            if (key == null || Arrays.compare(its, key) < 0) {
                key = its;
                found = row;
            }
        }
        loads = found == null ? loads : found;
        return found == null ? -1 : key[0];
    }

    int read(int port, int origin, int many) {
        must(port, world.ports);
        must(origin, world.ports);
        if (reads.size() == 10 || many < 0 || many > 40) {
            status[2]++;
            return -1;
        }
        reads.add(new int[] {port, origin, many});
        return reads.size();
    }

    int fits() {
        int fitting = 0;
        int[] first = null;
        for (int[] row : rows()) {
            Replay r = behindRoute(row);
            boolean fit = r != null;
            for (int i = 0; fit && i < reads.size(); i++) {
                fit = many(r, reads.get(i)[0], reads.get(i)[1]) == reads.get(i)[2];
            }
            fitting += fit ? 1 : 0;
            first = fit && first == null ? row : first;
        }
        loads = first == null ? loads : first;
        return fitting;
    }

    int load(int i) {
        if (loads == null) {
            throw new NoSuchElementException();
        }
        return pick(i, loads);
    }

    int took(int port, int ship, int there, int gone, int what) {
        must(port, world.ports);
        must(ship, world.ships);
        pick(what, 0, 0);
        Replay r = replay(events);
        if (there < 0 || there >= gone || gone > r.voyages.size()) {
            throw new IllegalArgumentException();
        }
        int upper = 0;
        int lower = 0;
        for (int[] v : r.voyages.subList(there, gone)) {
            if (v[1] == port && v[4] > 0) {
                lower += world.ports.get(v[2])[1];
                upper += v[0] == ship ? world.ports.get(v[2])[1] : 0;
            }
        }
        if (lower == 0) {
            return what;
        }
        int divisor = java.math.BigInteger.valueOf(upper).gcd(java.math.BigInteger.valueOf(lower)).intValue();
        return (what == 0 ? upper : lower) / divisor;
    }

    int flood(int port, int seed, int floods) {
        must(port, world.ports);
        if (floods < 0 || floods > 60) {
            throw new IllegalArgumentException();
        }
        events.add(new int[] {1, port, seed, floods});
        List<Integer> street = replay(events).streets.get(port);
        return street.isEmpty() ? -1 : street.get(0);
    }

    void image() {
        kept = List.of(new ArrayList<>(events), new ArrayList<>(legs), new ArrayList<>(reads), status.clone());
    }

    @SuppressWarnings("unchecked")
    boolean restore() {
        if (kept == null) {
            return false;
        }
        events = new ArrayList<>((List<int[]>) kept.get(0));
        legs = new ArrayList<>((List<int[]>) kept.get(1));
        reads = new ArrayList<>((List<int[]>) kept.get(2));
        status = ((int[]) kept.get(3)).clone();
        return true;
    }

    void feedText(String text) {
        byte[] bytes = Arrays.copyOf(text.getBytes(StandardCharsets.ISO_8859_1), (text.length() + 19) / 20 * 20);
        Arrays.fill(bytes, text.length(), bytes.length, (byte) 32);
        for (int i = 0; i < bytes.length && tape.length() < 600; i += 20) {
            tape.append(new String(bytes, i, 20, StandardCharsets.ISO_8859_1));
        }
    }

    private static int pick(int what, int... values) {
        if (what < 0 || what >= values.length) {
            throw new NoSuchElementException();
        }
        return values[what];
    }

    private static void must(int i, List<?> list) {
        if (i < 0 || i >= list.size()) {
            throw new NoSuchElementException();
        }
    }

    private int mud(Replay r) {
        int mud = 0;
        for (int p = 0; p < world.ports.size(); p++) {
            mud += Math.max(0, world.ports.get(p)[0] - r.streets.get(p).size());
        }
        return mud;
    }

    private int many(Replay r, int port, int origin) {
        int many = 0;
        for (int s : r.streets.get(port)) {
            many += world.stones.get(s)[0] == origin ? 1 : 0;
        }
        return many;
    }

    /* All rows of 0 to the HOLD for each LEG, the first one first. */
    private List<int[]> rows() {
        List<int[]> rows = new ArrayList<>();
        rows.add(new int[0]);
        for (int[] leg : legs) {
            List<int[]> longer = new ArrayList<>();
            for (int[] row : rows) {
                for (int cargo = 0; cargo <= world.ships.get(leg[0])[1]; cargo++) {
                    int[] next = Arrays.copyOf(row, row.length + 1);
                    next[row.length] = cargo;
                    longer.add(next);
                }
            }
            rows = longer;
        }
        return rows;
    }

    /* Null, if a LEG that is left out has CARGO. */
    private Replay behindRoute(int[] row) {
        Replay r = replay(events);
        for (int i = 0; i < row.length; i++) {
            int[] leg = legs.get(i);
            if (r.shipAt[leg[0]] != leg[1]) {
                sailOn(r, leg[0], leg[1], row[i]);
            } else if (row[i] > 0) {
                return null;
            }
        }
        return r;
    }

    private Replay replay(List<int[]> all) {
        Replay r = new Replay();
        for (int p = 0; p < world.ports.size(); p++) {
            r.streets.add(new ArrayList<>());
            r.prices[p] = 10;
        }
        for (int s = 0; s < world.stones.size(); s++) {
            r.streets.get(world.stones.get(s)[0]).add(s);
        }
        for (int s = 0; s < world.ships.size(); s++) {
            r.shipAt[s] = world.ships.get(s)[2];
        }
        note(r);
        for (int[] e : all) {
            if (e[0] == 0) {
                sailOn(r, e[1], e[2], e[3]);
            } else {
                floodOn(r.streets.get(e[1]), e[2], e[3]);
            }
        }
        return r;
    }

    private void note(Replay r) {
        int[] at = new int[world.stones.size()];
        for (int p = 0; p < r.streets.size(); p++) {
            for (int s : r.streets.get(p)) {
                at[s] = p;
            }
        }
        r.portsBehind.add(at);
    }

    private void sailOn(Replay r, int ship, int to, int cargo) {
        int[] told = world.ships.get(ship);
        int from = r.shipAt[ship];
        List<Integer> street = r.streets.get(from);
        List<Integer> taken = new ArrayList<>();
        int room = told[1] - cargo;
        for (int k = told[0] == 3 ? room / 2 : room; k > 0 && !street.isEmpty(); k--) {
            taken.add(street.remove(indexToTake(street, told)));
        }
        r.streets.get(to).addAll(taken);
        r.shipAt[ship] = to;
        int toll = 0;
        for (int s : taken) {
            int[] values = {world.stones.get(s)[1], world.stones.get(s)[0], from, to, taken.size(), r.voyages.size()};
            toll += world.tariff == null ? 0 : ModelText.value(world.tariff, values);
        }
        r.voyages.add(new int[] {ship, from, to, cargo, taken.size(), toll});
        r.laid.add(taken);
        note(r);
        for (int p = 0; p < r.streets.size(); p++) {
            int more = Integer.compare(world.ports.get(p)[0], r.streets.get(p).size());
            r.prices[p] = Math.max(0, Math.min(99, r.prices[p] + more));
        }
    }

    private int indexToTake(List<Integer> street, int[] told) {
        List<Integer> order = new ArrayList<>();
        for (int i = street.size() - 1; i >= 0; i--) {
            order.add(i);
        }
        if (told[0] == 1) {
            order.sort((a, b) -> world.stones.get(street.get(b))[1] - world.stones.get(street.get(a))[1]);
        } else if (told[0] == 2) {
            order.sort((a, b) -> strange(street.get(a), told[2]) - strange(street.get(b), told[2]));
        }
        return order.get(0);
    }

    private int strange(int stone, int home) {
        return world.stones.get(stone)[0] == home ? 0 : 1;
    }

    private static void floodOn(List<Integer> street, int seed, int floods) {
        int drawn = seed;
        for (int i = 0; i < floods && street.size() > 1; i++) {
            drawn = drawn * 1103515245 + 12345;
            int a = (drawn >> 16 & 32767) % street.size();
            drawn = drawn * 1103515245 + 12345;
            Collections.swap(street, a, (drawn >> 16 & 32767) % street.size());
        }
    }
}
