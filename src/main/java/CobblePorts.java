import java.util.Arrays;
import java.util.NoSuchElementException;

/** Ports paved with the ballast of ships; ../shared/DOC.md says what each call promises. */
public final class CobblePorts {
    public static final int NONE = -1;

    private static final int MOST_BYTES = 600;
    private static final int FED_BYTES = 20;
    private static final int MOST_PORTS = 6;
    private static final int MOST_NEED = 40;
    private static final int MOST_WEIGHT = 99;
    private static final int MOST_STONES = 40;
    private static final int MOST_STONES_OF_A_LINE = 20;
    private static final int MOST_SQUARENESS = 9;
    private static final int MOST_SHIPS = 5;
    private static final int MOST_HOLD = 8;
    private static final int MOST_VOYAGES = 30;
    private static final int MOST_LEGS = 4;
    private static final int MOST_READ = 10;
    private static final int MOST_FLOODS = 60;
    private static final int FIRST_PRICE = 10;
    private static final int MOST_PRICE = 99;
    /* Far more than any two sums of WEIGHTS need. */
    private static final int MOST_DIVISIONS = 64;

    private static final int PLAIN = 0;
    private static final int PICKY = 1;
    private static final int HOMESICK = 2;
    private static final int PROUD = 3;

    private static final int REFUSED_TEXTS = 0;
    private static final int REFUSED_VOYAGES = 1;
    private static final int REFUSED_LEGS = 2;
    private static final int STATUS_ROWS = 3;

    private final WorldParser parser = new WorldParser();
    private final World told = new World();
    private final State now = new State();
    private final State kept = new State();
    private final RouteSearch search = new RouteSearch();
    private final int[] loads = new int[MOST_LEGS];
    private boolean hasImage = false;
    private int faultPlace = NONE;
    private int loadCount = 0;

    public CobblePorts() {
    }

    public int feed(int a, int b, int c, int d, int e) {
        Tape tape = parser.tape;
        if (tape.length > MOST_BYTES - FED_BYTES) {
            return NONE;
        }
        tape.putNumber(a);
        tape.putNumber(b);
        tape.putNumber(c);
        tape.putNumber(d);
        tape.putNumber(e);
        return tape.length;
    }

    public int world(int n) throws IllegalArgumentException {
        if (n < 0 || n > parser.tape.length) {
            throw new IllegalArgumentException("the tape has not so many bytes");
        }
        boolean good = parser.readWorld(n);
        parser.tape.length = 0;
        if (!good) {
            faultPlace = parser.faultPlace;
            now.status[REFUSED_TEXTS]++;
            return parser.fault;
        }
        faultPlace = NONE;
        told.copyFrom(parser.draft);
        now.begin(told);
        hasImage = false;
        loadCount = 0;
        return 0;
    }

    public int fault() {
        return faultPlace;
    }

    public int count(int what) throws NoSuchElementException {
        switch (what) {
            case 0: return told.ports;
            case 1: return told.stones;
            case 2: return told.ships;
            case 3: return now.voyages.count;
            case 4: return now.legs;
            case 5: return now.reads;
            case 6: return now.streets.mudOfAll(told);
            case 7: return now.voyages.tollOfAll();
            case 8: return parser.tape.length;
            case 9: return now.status[REFUSED_TEXTS];
            case 10: return now.status[REFUSED_VOYAGES];
            case 11: return now.status[REFUSED_LEGS];
            default: throw new NoSuchElementException("nothing such is counted");
        }
    }

    public int port(int port, int what) throws NoSuchElementException {
        mustBePort(port);
        switch (what) {
            case 0: return told.need[port];
            case 1: return told.weight[port];
            case 2: return now.streets.lengths[port];
            case 3: return now.streets.mudOf(told, port);
            case 4: return now.voyages.priceIn(port);
            case 5: return now.streets.manyOf(port, port);
            default: throw new NoSuchElementException("nothing such is known of a port");
        }
    }

    public int stone(int stone, int what) throws NoSuchElementException {
        mustBeStone(stone);
        switch (what) {
            case 0: return told.origin[stone];
            case 1: return told.square[stone];
            case 2: return now.voyages.portOf(told, stone, now.voyages.count);
            case 3: return now.streets.placeOf(stone);
            case 4: return now.voyages.lastThatLaid(stone, now.voyages.count);
            case 5: return now.voyages.portsOf(told, stone);
            default: throw new NoSuchElementException("nothing such is known of a stone");
        }
    }

    public int street(int port, int place) throws NoSuchElementException {
        mustBePort(port);
        if (place < 0 || place >= now.streets.lengths[port]) {
            throw new NoSuchElementException("no such place");
        }
        return now.streets.stoneAt(port, place);
    }

    public int ship(int ship, int what) throws NoSuchElementException {
        mustBeShip(ship);
        switch (what) {
            case 0: return told.kind[ship];
            case 1: return told.hold[ship];
            case 2: return told.home[ship];
            case 3: return now.shipAt[ship];
            default: throw new NoSuchElementException("nothing such is known of a ship");
        }
    }

    public int sail(int ship, int to, int cargo) throws NoSuchElementException {
        mustBeShip(ship);
        mustBePort(to);
        boolean cargoFits = cargo >= 0 && cargo <= told.hold[ship];
        if (now.voyages.count >= MOST_VOYAGES || now.shipAt[ship] == to || !cargoFits) {
            now.status[REFUSED_VOYAGES]++;
            return NONE;
        }
        return now.makeVoyage(told, ship, to, cargo);
    }

    public int undo() {
        if (now.voyages.count <= now.voyages.fixed) {
            return NONE;
        }
        now.undoVoyage(told);
        return now.voyages.count;
    }

    public int voyage(int voyage, int what) throws NoSuchElementException {
        if (voyage < 0 || voyage >= now.voyages.count) {
            throw new NoSuchElementException("no such voyage");
        }
        mustBeBelow(what, Voyages.FACTS);
        return now.voyages.factOf(voyage, what);
    }

    public int gap(int from, int to) throws NoSuchElementException {
        mustBePort(from);
        mustBePort(to);
        return now.voyages.laidBetween(from, to) - now.voyages.laidBetween(to, from);
    }

    public int met(int stone, int other) throws NoSuchElementException {
        mustBeStone(stone);
        mustBeStone(other);
        return stone == other ? NONE : now.voyages.firstMeeting(told, stone, other);
    }

    public int horse(int port, int home) throws NoSuchElementException {
        mustBePort(port);
        mustBePort(home);
        return now.streets.leastWay(told, port, home);
    }

    public int leg(int ship, int to) throws NoSuchElementException {
        mustBeShip(ship);
        mustBePort(to);
        if (now.legs >= MOST_LEGS) {
            now.status[REFUSED_LEGS]++;
            return NONE;
        }
        now.addLeg(ship, to);
        return now.legs;
    }

    public void forget() {
        now.legs = 0;
        now.reads = 0;
    }

    public int best(int port) throws NoSuchElementException {
        mustBePort(port);
        int mud = search.seekBest(told, now, port);
        if (mud != NONE) {
            keepLoads();
        }
        return mud;
    }

    public int read(int port, int origin, int many) throws NoSuchElementException {
        mustBePort(port);
        mustBePort(origin);
        if (now.reads >= MOST_READ || many < 0 || many > MOST_STONES) {
            now.status[REFUSED_LEGS]++;
            return NONE;
        }
        now.addRead(port, origin, many);
        return now.reads;
    }

    public int fits() {
        int fitting = search.seekFitting(told, now);
        if (fitting > 0) {
            keepLoads();
        }
        return fitting;
    }

    public int load(int i) throws NoSuchElementException {
        if (i < 0 || i >= loadCount || i >= MOST_LEGS) {
            throw new NoSuchElementException("no such load is kept");
        }
        return loads[i];
    }

    public int took(int port, int ship, int there, int gone, int what)
            throws NoSuchElementException, IllegalArgumentException {
        mustBePort(port);
        mustBeShip(ship);
        mustBeBelow(what, 2);
        if (there < 0 || gone > now.voyages.count || gone <= there) {
            throw new IllegalArgumentException("there are no such voyages between");
        }
        int all = 0;
        int itsOwn = 0;
        for (int v = there; v < gone; v++) {
            int weight = now.voyages.tookFrom(v, port) ? told.weight[now.voyages.factOf(v, Voyages.TO)] : 0;
            all += weight;
            itsOwn += now.voyages.factOf(v, Voyages.SHIP) == ship ? weight : 0;
        }
        return partOfFraction(itsOwn, all, what);
    }

    public int flood(int port, int seed, int floods) throws NoSuchElementException, IllegalArgumentException {
        mustBePort(port);
        if (floods < 0 || floods > MOST_FLOODS) {
            throw new IllegalArgumentException("not so many floods");
        }
        if (floods > 0) {
            now.voyages.fixed = now.voyages.count;
        }
        now.streets.shuffle(port, seed, floods);
        return now.streets.lengths[port] > 0 ? now.streets.stoneAt(port, 0) : NONE;
    }

    public void image() {
        kept.copyFrom(now);
        hasImage = true;
    }

    public boolean restore() {
        if (hasImage) {
            now.copyFrom(kept);
        }
        return hasImage;
    }

    private void mustBePort(int port) {
        if (port < 0 || port >= told.ports) {
            throw new NoSuchElementException("no such port");
        }
    }

    private void mustBeStone(int stone) {
        if (stone < 0 || stone >= told.stones) {
            throw new NoSuchElementException("no such stone");
        }
    }

    private void mustBeShip(int ship) {
        if (ship < 0 || ship >= told.ships) {
            throw new NoSuchElementException("no such ship");
        }
    }

    private static void mustBeBelow(int what, int bound) {
        if (what < 0 || what >= bound) {
            throw new NoSuchElementException("nothing such is known");
        }
    }

    private void keepLoads() {
        System.arraycopy(search.found, 0, loads, 0, MOST_LEGS);
        loadCount = now.legs;
    }

    private static int partOfFraction(int upper, int lower, int what) {
        if (upper <= 0) {
            return what;
        }
        int divisor = greatestDivisor(lower, upper);
        return (what == 0 ? upper : lower) / Math.max(1, divisor);
    }

    private static int greatestDivisor(int a, int b) {
        int larger = a;
        int smaller = b;
        for (int i = 0; i < MOST_DIVISIONS && smaller > 0; i++) {
            int rest = larger % smaller;
            larger = smaller;
            smaller = rest;
        }
        return larger;
    }

    /** What a TEXT tells: nothing in it changes until the next one. */
    private static final class World {
        final int[] need = new int[MOST_PORTS];
        final int[] weight = new int[MOST_PORTS];
        final int[] origin = new int[MOST_STONES];
        final int[] square = new int[MOST_STONES];
        final int[] kind = new int[MOST_SHIPS];
        final int[] hold = new int[MOST_SHIPS];
        final int[] home = new int[MOST_SHIPS];
        final Tariff tariff = new Tariff();
        int ports = 0;
        int stones = 0;
        int ships = 0;

        void clear() {
            ports = 0;
            stones = 0;
            ships = 0;
            tariff.length = 0;
        }

        void addPort(int itsNeed, int itsWeight) {
            if (ports < MOST_PORTS) {
                need[ports] = itsNeed;
                weight[ports] = itsWeight;
                ports++;
            }
        }

        void addStones(int port, int many, int squareness) {
            for (int i = 0; i < many && stones < MOST_STONES; i++) {
                origin[stones] = port;
                square[stones] = squareness;
                stones++;
            }
        }

        void addShip(int itsKind, int itsHold, int port) {
            if (ships < MOST_SHIPS) {
                kind[ships] = itsKind;
                hold[ships] = itsHold;
                home[ships] = port;
                ships++;
            }
        }

        int stonesWanted(int ship, int cargo) {
            int room = hold[ship] - cargo;
            return kind[ship] == PROUD ? room / 2 : room;
        }

        void copyFrom(World other) {
            System.arraycopy(other.need, 0, need, 0, MOST_PORTS);
            System.arraycopy(other.weight, 0, weight, 0, MOST_PORTS);
            System.arraycopy(other.origin, 0, origin, 0, MOST_STONES);
            System.arraycopy(other.square, 0, square, 0, MOST_STONES);
            System.arraycopy(other.kind, 0, kind, 0, MOST_SHIPS);
            System.arraycopy(other.hold, 0, hold, 0, MOST_SHIPS);
            System.arraycopy(other.home, 0, home, 0, MOST_SHIPS);
            tariff.copyFrom(other.tariff);
            ports = other.ports;
            stones = other.stones;
            ships = other.ships;
        }
    }

    /** A TARIFF as steps on a stack, so that a long row of sums needs no deep calls. */
    private static final class Tariff {
        static final int SQUARE = -1;
        static final int ORIGIN = -2;
        static final int FROM = -3;
        static final int TO = -4;
        static final int MANY = -5;
        static final int MONTH = -6;
        static final int PLUS = -7;
        static final int MINUS = -8;
        static final int TIMES = -9;
        static final int OVER = -10;
        static final int LESS = -11;
        static final int SAME = -12;
        static final int NOT = -13;
        static final int AND = -14;
        static final int OR = -15;
        static final int VALUES = 6;
        /* Six EXPRs in one another, each with five sides that wait (or, and, test, sum, product), and one more. */
        private static final int MOST_WAITING = 40;

        /* A step of 0 or more is a NUMBER. */
        final int[] steps = new int[MOST_BYTES];
        final int[] values = new int[VALUES];
        private final int[] stack = new int[MOST_WAITING];
        int length = 0;
        private int waiting = 0;

        void addStep(int step) {
            if (length < MOST_BYTES) {
                steps[length] = step;
                length++;
            }
        }

        void setValue(int name, int value) {
            int i = -1 - name;
            if (i >= 0 && i < VALUES) {
                values[i] = value;
            }
        }

        int result() {
            if (length == 0) {
                return 0;
            }
            waiting = 0;
            for (int i = 0; i < length && i < MOST_BYTES; i++) {
                doStep(steps[i]);
            }
            return pop();
        }

        void copyFrom(Tariff other) {
            System.arraycopy(other.steps, 0, steps, 0, MOST_BYTES);
            length = other.length;
        }

        private void doStep(int step) {
            if (step >= 0) {
                push(step);
            } else if (step >= -VALUES) {
                push(values[-1 - step]);
            } else if (step == NOT) {
                push(pop() == 0 ? 1 : 0);
            } else {
                int right = pop();
                int left = pop();
                push(join(step, left, right));
            }
        }

        private static int join(int step, int left, int right) {
            switch (step) {
                case PLUS: return left + right;
                case MINUS: return left - right;
                case TIMES: return left * right;
                case OVER: return right == 0 ? 0 : left / right;
                case LESS: return left < right ? 1 : 0;
                case SAME: return left == right ? 1 : 0;
                case AND: return left != 0 && right != 0 ? 1 : 0;
                default: return left != 0 || right != 0 ? 1 : 0;
            }
        }

        private void push(int value) {
            if (waiting < MOST_WAITING) {
                stack[waiting] = value;
                waiting++;
            }
        }

        private int pop() {
            if (waiting <= 0) {
                return 0;
            }
            waiting--;
            return stack[waiting];
        }
    }

    /** The bytes that were fed, and the TOKENS along the first of them. */
    private static final class Tape {
        static final int END = 0;
        static final int WORD = 1;
        static final int NUMBER = 2;
        /* A byte that is no TOKEN counts as one too: it stands nowhere, so it needs no kind of its own. */
        static final int SIGN = 3;
        private static final int MOST_DIGITS = 4;

        final byte[] bytes = new byte[MOST_BYTES];
        int length = 0;
        int kind = END;
        int start = 0;
        /* NONE: it has too many digits. */
        int number = NONE;
        private int end = 0;
        private int textLength = 0;

        void putNumber(int fed) {
            for (int shift = 24; shift >= 0 && length < MOST_BYTES; shift -= 8) {
                bytes[length] = (byte) (fed >> shift);
                length++;
            }
        }

        void openText(int n) {
            textLength = Math.min(n, MOST_BYTES);
            end = 0;
            nextToken();
        }

        void nextToken() {
            for (; end < textLength && isBlank(bytes[end]); end++) {
                continue;
            }
            start = end;
            if (start >= textLength) {
                kind = END;
            } else if (isLetter(bytes[start])) {
                kind = WORD;
                for (; end < textLength && isLetter(bytes[end]); end++) {
                    continue;
                }
            } else if (isDigit(bytes[start])) {
                kind = NUMBER;
                number = 0;
                for (; end < textLength && isDigit(bytes[end]); end++) {
                    number = end - start < MOST_DIGITS ? number * 10 + (bytes[end] - '0') : NONE;
                }
            } else {
                kind = SIGN;
                end++;
            }
        }

        boolean isWord(String word) {
            if (kind != WORD || end - start != word.length()) {
                return false;
            }
            for (int i = 0; i < word.length(); i++) {
                if (bytes[start + i] != word.charAt(i)) {
                    return false;
                }
            }
            return true;
        }

        boolean isSign(char sign) {
            return kind == SIGN && start < textLength && bytes[start] == sign;
        }

        private static boolean isBlank(int b) {
            return b == ' ' || b == '\n';
        }

        private static boolean isLetter(int b) {
            return b >= 'a' && b <= 'z';
        }

        private static boolean isDigit(int b) {
            return b >= '0' && b <= '9';
        }
    }

    /** Reads a TEXT into a draft, so that the world stays as it is where there is a FAULT. */
    private static final class WorldParser {
        private static final int CANNOT_STAND = 1;
        private static final int TOO_MUCH = 2;
        private static final int UNKNOWN = 3;
        private static final int SECOND_TARIFF = 4;
        private static final int MOST_NESTED = 6;
        private static final int MOST_NOTS = 6;
        private static final int MOST_NUMBER = 9999;

        final Tape tape = new Tape();
        final World draft = new World();
        int fault = 0;
        int faultPlace = NONE;
        /* The NUMBER that the latest take..() went past. */
        private int taken = 0;

        boolean readWorld(int n) {
            fault = 0;
            faultPlace = NONE;
            draft.clear();
            tape.openText(n);
            for (int line = 0; line < MOST_BYTES && tape.kind != Tape.END; line++) {
                if (!takeLine()) {
                    return false;
                }
            }
            return true;
        }

        private boolean takeLine() {
            boolean good;
            if (tape.isWord("port")) {
                good = takePortLine();
            } else if (tape.isWord("stones")) {
                good = takeStonesLine();
            } else if (tape.isWord("tariff")) {
                good = takeTariffLine();
            } else {
                good = takeShipLine(kindNamed());
            }
            return good && takeSign(';');
        }

        private boolean takePortLine() {
            if (draft.ports >= MOST_PORTS) {
                return refuse(TOO_MUCH);
            }
            tape.nextToken();
            if (!takeNumber(0, MOST_NEED)) {
                return false;
            }
            int need = taken;
            int weight = 1;
            if (tape.isWord("weight")) {
                tape.nextToken();
                if (!takeNumber(0, MOST_WEIGHT)) {
                    return false;
                }
                weight = taken;
            }
            draft.addPort(need, weight);
            return true;
        }

        private boolean takeStonesLine() {
            tape.nextToken();
            if (!takeToldPort()) {
                return false;
            }
            int port = taken;
            if (!takeNumber(1, Math.min(MOST_STONES_OF_A_LINE, MOST_STONES - draft.stones))) {
                return false;
            }
            int many = taken;
            if (!takeNumber(0, MOST_SQUARENESS)) {
                return false;
            }
            draft.addStones(port, many, taken);
            return true;
        }

        private int kindNamed() {
            if (tape.isWord("plain")) {
                return PLAIN;
            }
            if (tape.isWord("picky")) {
                return PICKY;
            }
            if (tape.isWord("homesick")) {
                return HOMESICK;
            }
            return tape.isWord("proud") ? PROUD : NONE;
        }

        private boolean takeShipLine(int kind) {
            if (kind == NONE) {
                return refuse(CANNOT_STAND);
            }
            if (draft.ships >= MOST_SHIPS) {
                return refuse(TOO_MUCH);
            }
            tape.nextToken();
            if (!takeNumber(1, MOST_HOLD)) {
                return false;
            }
            int hold = taken;
            if (!takeToldPort()) {
                return false;
            }
            draft.addShip(kind, hold, taken);
            return true;
        }

        private boolean takeTariffLine() {
            if (draft.tariff.length > 0) {
                return refuse(SECOND_TARIFF);
            }
            tape.nextToken();
            return takeExpr(0);
        }

        private boolean takeExpr(int depth) {
            if (depth >= MOST_NESTED) {
                boolean couldBegin = tape.kind == Tape.NUMBER || tape.kind == Tape.WORD || tape.isSign('(');
                return refuse(couldBegin ? TOO_MUCH : CANNOT_STAND);
            }
            boolean good = takeAnd(depth);
            for (int i = 0; i < MOST_BYTES && good && tape.isWord("or"); i++) {
                tape.nextToken();
                good = takeAnd(depth);
                draft.tariff.addStep(Tariff.OR);
            }
            return good;
        }

        private boolean takeAnd(int depth) {
            boolean good = takeNot(depth);
            for (int i = 0; i < MOST_BYTES && good && tape.isWord("and"); i++) {
                tape.nextToken();
                good = takeNot(depth);
                draft.tariff.addStep(Tariff.AND);
            }
            return good;
        }

        private boolean takeNot(int depth) {
            int nots = 0;
            for (; nots < MOST_NOTS && tape.isWord("not"); nots++) {
                tape.nextToken();
            }
            if (tape.isWord("not") && nots >= MOST_NOTS) {
                return refuse(TOO_MUCH);
            }
            if (!takeTest(depth)) {
                return false;
            }
            for (int i = 0; i < nots; i++) {
                draft.tariff.addStep(Tariff.NOT);
            }
            return true;
        }

        private boolean takeTest(int depth) {
            if (!takeSum(depth)) {
                return false;
            }
            if (!tape.isSign('<') && !tape.isSign('=')) {
                return true;
            }
            int step = tape.isSign('<') ? Tariff.LESS : Tariff.SAME;
            tape.nextToken();
            boolean good = takeSum(depth);
            draft.tariff.addStep(step);
            return good;
        }

        private boolean takeSum(int depth) {
            boolean good = takeProduct(depth);
            for (int i = 0; i < MOST_BYTES && good && (tape.isSign('+') || tape.isSign('-')); i++) {
                int step = tape.isSign('+') ? Tariff.PLUS : Tariff.MINUS;
                tape.nextToken();
                good = takeProduct(depth);
                draft.tariff.addStep(step);
            }
            return good;
        }

        private boolean takeProduct(int depth) {
            boolean good = takePart(depth);
            for (int i = 0; i < MOST_BYTES && good && (tape.isSign('*') || tape.isSign('/')); i++) {
                int step = tape.isSign('*') ? Tariff.TIMES : Tariff.OVER;
                tape.nextToken();
                good = takePart(depth);
                draft.tariff.addStep(step);
            }
            return good;
        }

        private boolean takePart(int depth) {
            if (tape.isSign('(')) {
                tape.nextToken();
                return takeExpr(depth + 1) && takeSign(')');
            }
            if (tape.kind != Tape.WORD) {
                boolean good = takeNumber(0, MOST_NUMBER);
                draft.tariff.addStep(taken);
                return good;
            }
            int value = valueNamed();
            if (value == 0) {
                return refuse(UNKNOWN);
            }
            draft.tariff.addStep(value);
            tape.nextToken();
            return true;
        }

        private int valueNamed() {
            if (tape.isWord("square")) {
                return Tariff.SQUARE;
            }
            if (tape.isWord("origin")) {
                return Tariff.ORIGIN;
            }
            if (tape.isWord("from")) {
                return Tariff.FROM;
            }
            if (tape.isWord("to")) {
                return Tariff.TO;
            }
            if (tape.isWord("many")) {
                return Tariff.MANY;
            }
            return tape.isWord("month") ? Tariff.MONTH : 0;
        }

        private boolean takeNumber(int least, int most) {
            if (tape.kind != Tape.NUMBER) {
                return refuse(CANNOT_STAND);
            }
            if (tape.number == NONE || tape.number < least || tape.number > most) {
                return refuse(TOO_MUCH);
            }
            taken = tape.number;
            tape.nextToken();
            return true;
        }

        private boolean takeToldPort() {
            if (tape.kind == Tape.NUMBER && tape.number >= draft.ports) {
                return refuse(UNKNOWN);
            }
            return takeNumber(0, MOST_PORTS - 1);
        }

        private boolean takeSign(char sign) {
            if (!tape.isSign(sign)) {
                return refuse(CANNOT_STAND);
            }
            tape.nextToken();
            return true;
        }

        private boolean refuse(int number) {
            fault = number;
            faultPlace = tape.start;
            return false;
        }
    }

    /** Which STONES lie where now, in what order. */
    private static final class Streets {
        private static final int PACE = 1103515245;
        private static final int SHIFT = 12345;

        final int[] lengths = new int[MOST_PORTS];
        private final int[] rows = new int[MOST_PORTS * MOST_STONES];
        /* How many of each ORIGIN lie in each PORT: a search through LOADS asks too often to count them. */
        private final int[] ofOrigin = new int[MOST_PORTS * MOST_PORTS];

        void begin(World world) {
            Arrays.fill(lengths, 0);
            Arrays.fill(ofOrigin, 0);
            for (int stone = 0; stone < world.stones; stone++) {
                int port = world.origin[stone];
                insert(world, port, lengths[port], stone);
            }
        }

        int stoneAt(int port, int place) {
            return rows[port * MOST_STONES + place];
        }

        int manyOf(int port, int origin) {
            return ofOrigin[port * MOST_PORTS + origin];
        }

        int placeOf(int stone) {
            for (int port = 0; port < MOST_PORTS; port++) {
                for (int place = 0; place < lengths[port]; place++) {
                    if (stoneAt(port, place) == stone) {
                        return place;
                    }
                }
            }
            return NONE;
        }

        int mudOf(World world, int port) {
            return Math.max(0, world.need[port] - lengths[port]);
        }

        int mudOfAll(World world) {
            int mud = 0;
            for (int port = 0; port < world.ports; port++) {
                mud += mudOf(world, port);
            }
            return mud;
        }

        void insert(World world, int port, int place, int stone) {
            if (lengths[port] >= MOST_STONES || place < 0 || place > lengths[port]) {
                return;
            }
            int row = port * MOST_STONES;
            for (int i = lengths[port]; i > place; i--) {
                rows[row + i] = rows[row + i - 1];
            }
            rows[row + place] = stone;
            lengths[port]++;
            ofOrigin[port * MOST_PORTS + world.origin[stone]]++;
        }

        /** The caller has seen that there is a STONE at the place. */
        int lift(World world, int port, int place) {
            int row = port * MOST_STONES;
            int stone = rows[row + place];
            lengths[port]--;
            for (int i = place; i < lengths[port]; i++) {
                rows[row + i] = rows[row + i + 1];
            }
            ofOrigin[port * MOST_PORTS + world.origin[stone]]--;
            return stone;
        }

        /** Where the STONE lies that a SHIP takes next; NONE, if the STREET is empty. */
        int placeToTake(World world, int ship, int port) {
            int place = NONE;
            if (world.kind[ship] == PICKY) {
                place = squarestPlace(world, port);
            } else if (world.kind[ship] == HOMESICK) {
                place = lastPlaceOfOrigin(world, port, world.home[ship]);
            }
            return place == NONE ? lengths[port] - 1 : place;
        }

        int leastWay(World world, int port, int home) {
            int beforeLast = 0;
            int last = 0;
            for (int place = 0; place < lengths[port]; place++) {
                int stone = stoneAt(port, place);
                int tread = 10 - world.square[stone] + (world.origin[stone] == home ? 0 : 5);
                int here = Math.min(beforeLast, last) + tread;
                beforeLast = last;
                last = here;
            }
            return Math.min(beforeLast, last);
        }

        void shuffle(int port, int seed, int floods) {
            int many = lengths[port];
            if (many < 2) {
                return;
            }
            int row = port * MOST_STONES;
            int drawn = seed;
            for (int i = 0; i < floods; i++) {
                drawn = drawn * PACE + SHIFT;
                int one = row + ((drawn >>> 16) & 0x7fff) % many;
                drawn = drawn * PACE + SHIFT;
                int other = row + ((drawn >>> 16) & 0x7fff) % many;
                int stone = rows[one];
                rows[one] = rows[other];
                rows[other] = stone;
            }
        }

        void copyFrom(Streets other) {
            System.arraycopy(other.lengths, 0, lengths, 0, MOST_PORTS);
            System.arraycopy(other.rows, 0, rows, 0, MOST_PORTS * MOST_STONES);
            System.arraycopy(other.ofOrigin, 0, ofOrigin, 0, MOST_PORTS * MOST_PORTS);
        }

        private int squarestPlace(World world, int port) {
            int squarest = NONE;
            int found = NONE;
            for (int place = 0; place < lengths[port]; place++) {
                int square = world.square[stoneAt(port, place)];
                if (square >= squarest) {
                    squarest = square;
                    found = place;
                }
            }
            return found;
        }

        private int lastPlaceOfOrigin(World world, int port, int origin) {
            for (int place = lengths[port] - 1; place >= 0; place--) {
                if (world.origin[stoneAt(port, place)] == origin) {
                    return place;
                }
            }
            return NONE;
        }
    }

    /** A SHIP's way from one PORT to another, and where in the STREET each STONE lay that it took. */
    private static final class Trip {
        int ship = 0;
        int from = 0;
        int to = 0;
        int many = 0;
        final int[] places = new int[MOST_HOLD];

        void begin(int itsShip, int itsFrom, int itsTo) {
            ship = itsShip;
            from = itsFrom;
            to = itsTo;
            many = 0;
        }

        /** It goes on from what was carried: more room never changes which STONES come first. */
        void carryUpTo(World world, Streets streets, int wanted) {
            for (int i = many; i < wanted && i < MOST_HOLD; i++) {
                int place = streets.placeToTake(world, ship, from);
                if (place == NONE) {
                    return;
                }
                int stone = streets.lift(world, from, place);
                streets.insert(world, to, streets.lengths[to], stone);
                places[i] = place;
                many++;
            }
        }

        void carryBack(World world, Streets streets) {
            for (int i = many - 1; i >= 0 && streets.lengths[to] > 0; i--) {
                int stone = streets.lift(world, to, streets.lengths[to] - 1);
                streets.insert(world, from, places[i], stone);
            }
            many = 0;
        }
    }

    /** The VOYAGES that were made, and what is needed so that the last one can be undone. */
    private static final class Voyages {
        static final int SHIP = 0;
        static final int FROM = 1;
        static final int TO = 2;
        static final int CARGO = 3;
        static final int LAID = 4;
        static final int TOLL = 5;
        static final int FACTS = 6;

        int count = 0;
        /* How many of the first ones can't be undone. */
        int fixed = 0;
        private final int[] facts = new int[MOST_VOYAGES * FACTS];
        private final long[] laid = new long[MOST_VOYAGES];
        private final int[] places = new int[MOST_VOYAGES * MOST_HOLD];
        /* A row behind each number of VOYAGES: a price that was held at its bound can't be reckoned back. */
        private final int[] prices = new int[(MOST_VOYAGES + 1) * MOST_PORTS];

        void begin() {
            count = 0;
            fixed = 0;
            for (int port = 0; port < MOST_PORTS; port++) {
                prices[port] = FIRST_PRICE;
            }
        }

        int factOf(int voyage, int what) {
            return facts[voyage * FACTS + what];
        }

        int priceIn(int port) {
            return prices[count * MOST_PORTS + port];
        }

        /** The caller has seen that there is room for one more, and the STONES lie where they were laid. */
        void add(World world, Streets streets, Trip trip, int cargo) {
            int row = count * FACTS;
            facts[row + SHIP] = trip.ship;
            facts[row + FROM] = trip.from;
            facts[row + TO] = trip.to;
            facts[row + CARGO] = cargo;
            facts[row + LAID] = trip.many;
            facts[row + TOLL] = noteLaid(world, streets, trip);
            System.arraycopy(trip.places, 0, places, count * MOST_HOLD, MOST_HOLD);
            count++;
            notePrices(world, streets);
        }

        /** The last VOYAGE leaves the list; the trip has then what it carried. */
        void removeLast(Trip trip) {
            count--;
            trip.begin(factOf(count, SHIP), factOf(count, FROM), factOf(count, TO));
            trip.many = factOf(count, LAID);
            System.arraycopy(places, count * MOST_HOLD, trip.places, 0, MOST_HOLD);
        }

        int tollOfAll() {
            int toll = 0;
            for (int v = 0; v < count; v++) {
                toll += factOf(v, TOLL);
            }
            return toll;
        }

        int laidBetween(int from, int to) {
            int many = 0;
            for (int v = 0; v < count; v++) {
                if (factOf(v, FROM) == from && factOf(v, TO) == to) {
                    many += factOf(v, LAID);
                }
            }
            return many;
        }

        boolean tookFrom(int voyage, int port) {
            return factOf(voyage, FROM) == port && factOf(voyage, LAID) > 0;
        }

        /** Of the first so many VOYAGES the last that laid a STONE; NONE, if none did. */
        int lastThatLaid(int stone, int behind) {
            for (int v = behind - 1; v >= 0; v--) {
                if (hasLaid(v, stone)) {
                    return v;
                }
            }
            return NONE;
        }

        int portOf(World world, int stone, int behind) {
            int voyage = lastThatLaid(stone, behind);
            return voyage == NONE ? world.origin[stone] : factOf(voyage, TO);
        }

        int portsOf(World world, int stone) {
            int bits = 1 << world.origin[stone];
            for (int v = 0; v < count; v++) {
                if (hasLaid(v, stone)) {
                    bits |= 1 << factOf(v, TO);
                }
            }
            return bits;
        }

        int firstMeeting(World world, int stone, int other) {
            for (int behind = 0; behind <= count; behind++) {
                if (portOf(world, stone, behind) == portOf(world, other, behind)) {
                    return behind;
                }
            }
            return NONE;
        }

        void copyFrom(Voyages other) {
            System.arraycopy(other.facts, 0, facts, 0, MOST_VOYAGES * FACTS);
            System.arraycopy(other.laid, 0, laid, 0, MOST_VOYAGES);
            System.arraycopy(other.places, 0, places, 0, MOST_VOYAGES * MOST_HOLD);
            System.arraycopy(other.prices, 0, prices, 0, (MOST_VOYAGES + 1) * MOST_PORTS);
            count = other.count;
            fixed = other.fixed;
        }

        private boolean hasLaid(int voyage, int stone) {
            return (laid[voyage] >>> stone & 1L) != 0;
        }

        private int noteLaid(World world, Streets streets, Trip trip) {
            Tariff tariff = world.tariff;
            tariff.setValue(Tariff.FROM, trip.from);
            tariff.setValue(Tariff.TO, trip.to);
            tariff.setValue(Tariff.MANY, trip.many);
            tariff.setValue(Tariff.MONTH, count);
            int toll = 0;
            laid[count] = 0;
            int end = streets.lengths[trip.to];
            for (int place = Math.max(0, end - trip.many); place < end; place++) {
                int stone = streets.stoneAt(trip.to, place);
                laid[count] |= 1L << stone;
                tariff.setValue(Tariff.SQUARE, world.square[stone]);
                tariff.setValue(Tariff.ORIGIN, world.origin[stone]);
                toll += tariff.result();
            }
            return toll;
        }

        private void notePrices(World world, Streets streets) {
            int row = count * MOST_PORTS;
            for (int port = 0; port < world.ports; port++) {
                int price = prices[row - MOST_PORTS + port];
                if (streets.lengths[port] < world.need[port]) {
                    price = Math.min(MOST_PRICE, price + 1);
                } else if (streets.lengths[port] > world.need[port]) {
                    price = Math.max(0, price - 1);
                }
                prices[row + port] = price;
            }
        }
    }

    /** All that AN IMAGE keeps. */
    private static final class State {
        final Streets streets = new Streets();
        final Voyages voyages = new Voyages();
        final int[] shipAt = new int[MOST_SHIPS];
        final int[] legShip = new int[MOST_LEGS];
        final int[] legTo = new int[MOST_LEGS];
        final int[] readPort = new int[MOST_READ];
        final int[] readOrigin = new int[MOST_READ];
        final int[] readMany = new int[MOST_READ];
        final int[] status = new int[STATUS_ROWS];
        int legs = 0;
        int reads = 0;
        private final Trip trip = new Trip();

        /** STATUS stays: it counts calls, whatever world they met. */
        void begin(World world) {
            streets.begin(world);
            voyages.begin();
            System.arraycopy(world.home, 0, shipAt, 0, MOST_SHIPS);
            legs = 0;
            reads = 0;
        }

        int makeVoyage(World world, int ship, int to, int cargo) {
            trip.begin(ship, shipAt[ship], to);
            trip.carryUpTo(world, streets, world.stonesWanted(ship, cargo));
            voyages.add(world, streets, trip, cargo);
            shipAt[ship] = to;
            return trip.many;
        }

        /** The caller has seen that there is one. */
        void undoVoyage(World world) {
            voyages.removeLast(trip);
            trip.carryBack(world, streets);
            shipAt[trip.ship] = trip.from;
        }

        void addLeg(int ship, int to) {
            if (legs < MOST_LEGS) {
                legShip[legs] = ship;
                legTo[legs] = to;
                legs++;
            }
        }

        void addRead(int port, int origin, int many) {
            if (reads < MOST_READ) {
                readPort[reads] = port;
                readOrigin[reads] = origin;
                readMany[reads] = many;
                reads++;
            }
        }

        boolean isAsRead() {
            for (int i = 0; i < reads; i++) {
                if (streets.manyOf(readPort[i], readOrigin[i]) != readMany[i]) {
                    return false;
                }
            }
            return true;
        }

        void copyFrom(State other) {
            streets.copyFrom(other.streets);
            voyages.copyFrom(other.voyages);
            System.arraycopy(other.shipAt, 0, shipAt, 0, MOST_SHIPS);
            System.arraycopy(other.legShip, 0, legShip, 0, MOST_LEGS);
            System.arraycopy(other.legTo, 0, legTo, 0, MOST_LEGS);
            System.arraycopy(other.readPort, 0, readPort, 0, MOST_READ);
            System.arraycopy(other.readOrigin, 0, readOrigin, 0, MOST_READ);
            System.arraycopy(other.readMany, 0, readMany, 0, MOST_READ);
            System.arraycopy(other.status, 0, status, 0, STATUS_ROWS);
            legs = other.legs;
            reads = other.reads;
        }
    }

    /** Tries all LOADS of a ROUTE in the streets themselves, and leaves these as they were. */
    private static final class RouteSearch {
        final int[] found = new int[MOST_LEGS];
        private final int[] tried = new int[MOST_LEGS];
        private final Trip[] trips = new Trip[MOST_LEGS];
        private int pavedPort = NONE;
        private int leastMud = NONE;
        private int mostCargo = 0;
        private int fitting = 0;

        RouteSearch() {
            for (int leg = 0; leg < MOST_LEGS; leg++) {
                trips[leg] = new Trip();
            }
        }

        /** The MUD of all PORTS by the BEST LOADS for a PORT; NONE, if there are none. */
        int seekBest(World world, State state, int port) {
            pavedPort = port;
            leastMud = NONE;
            planTrips(state);
            tryLegs(world, state, 0);
            return leastMud;
        }

        /** How many LOADS fit what was READ. */
        int seekFitting(World world, State state) {
            pavedPort = NONE;
            fitting = 0;
            planTrips(state);
            tryLegs(world, state, 0);
            return fitting;
        }

        private void planTrips(State state) {
            for (int leg = 0; leg < state.legs; leg++) {
                int ship = state.legShip[leg];
                int from = state.shipAt[ship];
                for (int earlier = 0; earlier < leg; earlier++) {
                    if (state.legShip[earlier] == ship) {
                        from = state.legTo[earlier];
                    }
                }
                trips[leg].begin(ship, from, state.legTo[leg]);
            }
        }

        /** CARGO falls from try to try: so each has the STONES of the one ahead of it, and perhaps more. */
        private void tryLegs(World world, State state, int leg) {
            if (leg >= state.legs || leg >= MOST_LEGS) {
                judge(world, state);
                return;
            }
            Trip trip = trips[leg];
            boolean leftOut = trip.from == trip.to;
            for (int cargo = leftOut ? 0 : world.hold[trip.ship]; cargo >= 0; cargo--) {
                if (!leftOut) {
                    trip.carryUpTo(world, state.streets, world.stonesWanted(trip.ship, cargo));
                }
                tried[leg] = cargo;
                tryLegs(world, state, leg + 1);
            }
            trip.carryBack(world, state.streets);
        }

        private void judge(World world, State state) {
            if (pavedPort != NONE) {
                judgeMud(world, state);
            } else if (state.isAsRead()) {
                fitting++;
                keepTried();
            }
        }

        /** Rows come the last one first: so of like ones the later one is kept. */
        private void judgeMud(World world, State state) {
            if (state.streets.mudOf(world, pavedPort) > 0) {
                return;
            }
            int mud = state.streets.mudOfAll(world);
            int cargo = 0;
            for (int leg = 0; leg < state.legs; leg++) {
                cargo += tried[leg];
            }
            if (leastMud == NONE || mud < leastMud || (mud == leastMud && cargo >= mostCargo)) {
                leastMud = mud;
                mostCargo = cargo;
                keepTried();
            }
        }

        private void keepTried() {
            System.arraycopy(tried, 0, found, 0, MOST_LEGS);
        }
    }
}
