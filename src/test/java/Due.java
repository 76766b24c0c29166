import java.nio.charset.StandardCharsets;
import java.util.NoSuchElementException;

/** What the tests of the project share: it compares answers, and ends a test with exit code 1 if one was wrong. */
final class Due {
    /** A call whose answer, or exception, is looked at. */
    interface Call {
        long answer();
    }

    private int wrong = 0;
    private int looked = 0;
    private String sentence = "";

    /** The document's words that the next answers rest on: they are told where one is wrong. */
    void about(String words) {
        sentence = "[" + words + "] ";
    }

    void is(String what, long got, long want) {
        is(what, Long.toString(got), Long.toString(want));
    }

    void is(String what, String got, String want) {
        looked++;
        if (!got.equals(want)) {
            wrong++;
            System.out.println(sentence + what + " answered " + got + ", due is " + want);
        }
    }

    void noSuch(String what, Call call) {
        is(what, outcome(call), "throws.NoSuchElementException");
    }

    void illegal(String what, Call call) {
        is(what, outcome(call), "throws.IllegalArgumentException");
    }

    void end() {
        System.out.println(wrong == 0 ? looked + " answers are as due" : wrong + " of " + looked + " answers are not as due");
        if (wrong != 0) {
            System.exit(1);
        }
    }

    /** Only the exact class counts: the machine's own exceptions show their names. */
    static String outcome(Call call) {
        try {
            return Long.toString(call.answer());
        } catch (RuntimeException e) {
            boolean named = e.getClass() == NoSuchElementException.class || e.getClass() == IllegalArgumentException.class;
            return "throws." + (named ? e.getClass().getSimpleName() : e.getClass().getName());
        }
    }

    static void feed(CobblePorts x, String text) {
        byte[] bytes = text.getBytes(StandardCharsets.ISO_8859_1);
        for (int i = 0; i < bytes.length; i += 20) {
            x.feed(number(bytes, i), number(bytes, i + 4), number(bytes, i + 8), number(bytes, i + 12), number(bytes, i + 16));
        }
    }

    static int tell(CobblePorts x, String text) {
        feed(x, text);
        return x.world(text.length());
    }

    static CobblePorts told(String text) {
        CobblePorts x = new CobblePorts();
        int fault = tell(x, text);
        if (fault != 0) {
            throw new IllegalStateException("fault " + fault + " at " + x.fault() + " of " + text);
        }
        return x;
    }

    static String street(CobblePorts x, int port) {
        StringBuilder row = new StringBuilder();
        for (int place = 0; place < x.port(port, 2); place++) {
            row.append(place == 0 ? "" : " ").append(x.street(port, place));
        }
        return row.toString();
    }

    /** All that can be asked without a change, but for the tape and the FAULT's place. */
    static String dump(CobblePorts x) {
        StringBuilder all = new StringBuilder();
        all.append("status ").append(x.count(9)).append(" refused ").append(x.count(10)).append(' ').append(x.count(11)).append('\n');
        row(all, "counts", 8, x::count);
        int ports = x.count(0);
        for (int port = 0; port < ports; port++) {
            int p = port;
            row(all, "port", 6, what -> x.port(p, what));
            row(all, "street", x.port(p, 2), place -> x.street(p, place));
            row(all, "gaps", ports, to -> x.gap(p, to));
            row(all, "horses", ports, home -> x.horse(p, home));
        }
        for (int stone = 0; stone < x.count(1); stone++) {
            int s = stone;
            row(all, "stone", 6, what -> x.stone(s, what));
            row(all, "met", s, other -> x.met(s, other));
        }
        for (int ship = 0; ship < x.count(2); ship++) {
            int s = ship;
            row(all, "ship", 4, what -> x.ship(s, what));
        }
        for (int voyage = 0; voyage < x.count(3); voyage++) {
            int v = voyage;
            row(all, "voyage", 6, what -> x.voyage(v, what));
        }
        for (int i = 0; i < 5; i++) {
            int k = i;
            all.append("load ").append(outcome(() -> x.load(k))).append('\n');
        }
        return all.toString();
    }

    private static void row(StringBuilder all, String name, int many, java.util.function.IntUnaryOperator look) {
        all.append(name);
        for (int i = 0; i < many; i++) {
            all.append(' ').append(look.applyAsInt(i));
        }
        all.append('\n');
    }

    private static int number(byte[] bytes, int at) {
        int n = 0;
        for (int i = at; i < at + 4; i++) {
            n = n << 8 | (i < bytes.length ? bytes[i] & 255 : ' ');
        }
        return n;
    }
}
