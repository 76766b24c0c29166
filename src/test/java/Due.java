import java.nio.charset.StandardCharsets;
import java.util.NoSuchElementException;

/** What the tests of the project share: it compares answers, and ends a test with exit code 1 if one was wrong. */
final class Due {
    /** A call whose answer, or exception, is looked at. */
    interface Call {
        long answer();
    }

    private int wrong = 0;
    private int looked = 0;

    void is(String what, long got, long want) {
        looked++;
        if (got != want) {
            wrong++;
            System.out.println(what + " answered " + got + ", due is " + want);
        }
    }

    void is(String what, String got, String want) {
        looked++;
        if (!got.equals(want)) {
            wrong++;
            System.out.println(what + " answered " + got + ", due is " + want);
        }
    }

    void noSuch(String what, Call call) {
        is(what, outcome(call), "throws.NoSuchElementException");
    }

    void illegal(String what, Call call) {
        is(what, outcome(call), "throws.IllegalArgumentException");
    }

    void end() {
        System.out.println(wrong == 0 ? looked + " answers are as due" : wrong + " of " + looked + " answers are not as due");
        if (wrong != 0) {
            System.exit(1);
        }
    }

    /** Only the exact class counts: the machine's own exceptions show their names. */
    static String outcome(Call call) {
        try {
            return Long.toString(call.answer());
        } catch (RuntimeException e) {
            boolean named = e.getClass() == NoSuchElementException.class || e.getClass() == IllegalArgumentException.class;
            return "throws." + (named ? e.getClass().getSimpleName() : e.getClass().getName());
        }
    }

    static void feed(CobblePorts x, String text) {
        byte[] bytes = text.getBytes(StandardCharsets.ISO_8859_1);
        for (int i = 0; i < bytes.length; i += 20) {
            x.feed(number(bytes, i), number(bytes, i + 4), number(bytes, i + 8), number(bytes, i + 12), number(bytes, i + 16));
        }
    }

    static int tell(CobblePorts x, String text) {
        feed(x, text);
        return x.world(text.length());
    }

    static CobblePorts told(String text) {
        CobblePorts x = new CobblePorts();
        int fault = tell(x, text);
        if (fault != 0) {
            throw new IllegalStateException("fault " + fault + " at " + x.fault() + " of " + text);
        }
        return x;
    }

    static String street(CobblePorts x, int port) {
        StringBuilder row = new StringBuilder();
        for (int place = 0; place < x.port(port, 2); place++) {
            row.append(place == 0 ? "" : " ").append(x.street(port, place));
        }
        return row.toString();
    }

    private static int number(byte[] bytes, int at) {
        int n = 0;
        for (int i = at; i < at + 4; i++) {
            n = n << 8 | (i < bytes.length ? bytes[i] & 255 : ' ');
        }
        return n;
    }
}
