/** Promises 3, 10 and 12: what an EXPR gives, as the TOLL of one STONE. */
public final class TariffTest {
    private static final Due DUE = new Due();

    public static void main(String[] args) {
        numbers();
        order();
        tests();
        values();
        manyStones();
        longRow();
        DUE.end();
    }

    private static void numbers() {
        toll("0", 0);
        toll("9999", 9999);
        toll("0007", 7);
        toll("1-2-3", -4);
        toll("2*3/4*5", 5);
        toll("7/2", 3);
        toll("(0-7)/2", -3);
        toll("7/(0-2)", -3);
        toll("7/0", 0);
        toll("0/0", 0);
        toll("5+7/0*3", 5);
        toll("9999*9999*9999", (int) (9999L * 9999 * 9999));
        toll("(0-2048*1024*1024)/(0-1)", Integer.MIN_VALUE);
        toll("2048*1024*1024-1", Integer.MAX_VALUE);
    }

    private static void order() {
        toll("1+2*3", 7);
        toll("(1+2)*3", 9);
        toll("10-4/2", 8);
        toll("1+1<3", 1);
        toll("1<3+1", 1);
        toll("not 1+1", 0);
        toll("not 0+1", 0);
        toll("not 1<0", 1);
        toll("not 1=0 and 0", 0);
        toll("1 or 0 and 0", 1);
        toll("(1 or 0) and 0", 0);
        toll("0 and 1 or 1", 1);
        toll("2*(3 or 0)", 2);
        toll("(((((4)))))", 4);
    }

    private static void tests() {
        toll("2<3", 1);
        toll("3<3", 0);
        toll("3<2", 0);
        toll("3=3", 1);
        toll("3=2", 0);
        toll("not 0", 1);
        toll("not 5", 0);
        toll("not not 5", 1);
        toll("not not not 5", 0);
        toll("not not not not not not 5", 1);
        toll("5 and 7", 1);
        toll("5 and 0", 0);
        toll("0 and 5", 0);
        toll("5 or 7", 1);
        toll("0 or 7", 1);
        toll("0 or 0", 0);
        toll("0-1 and 0-2", 1);
        toll("1 and 1 and 0", 0);
        toll("0 or 0 or 9", 1);
    }

    private static void values() {
        toll("square", 6);
        toll("origin", 1);
        toll("from", 2);
        toll("to", 3);
        toll("many", 1);
        toll("month", 1);
        toll("square*1000+origin*100+from*10+to", 6123);
        toll("square=6 and month=1", 1);
    }

    private static void manyStones() {
        CobblePorts x = Due.told("port 0;port 0;stones 0 2 3;stones 0 1 8;plain 5 0;tariff square*10+many+month;");
        x.sail(0, 1, 0);
        DUE.is("together", x.voyage(0, 5), 30 + 30 + 80 + 9);
        x.sail(0, 0, 4);
        DUE.is("one, a month later", x.voyage(1, 5), 30 + 1 + 1);
        x.sail(0, 1, 5);
        DUE.is("of no stone", x.voyage(2, 5), 0);
        DUE.is("of all", x.count(7), 149 + 32);
        CobblePorts y = Due.told("port 0;port 0;stones 0 3 3;plain 8 0;tariff 2048*1024*1024-1;");
        y.sail(0, 1, 0);
        DUE.is("together it wraps", y.voyage(0, 5), Integer.MAX_VALUE * 3);
        y.sail(0, 0, 0);
        DUE.is("of all it wraps", y.count(7), Integer.MAX_VALUE * 6);
    }

    private static void longRow() {
        toll("1" + "+1".repeat(250), 251);
        toll("1" + "-1".repeat(250), -249);
        toll("(((((1)))))" + "+(1 or 0 and 2<1+2*(1 or 0 and 2<1+2*(1 or 0 and 2<1+2*(1 or 0 and 2<1+2*(1 or 0 and 2<1+2*1)))))", 2);
        toll("0 or 1 and 3=1+2*(0 or 1 and 3=1+2*(0 or 1 and 3=1+2*(0 or 1 and 3=1+2*(0 or 1 and 3=1+2*(0 or 1 and 3=1+2*1)))))", 1);
    }

    /* STONE 0 of ORIGIN 1 goes to PORT 2 first, then by the VOYAGE 1 to PORT 3. */
    private static void toll(String expr, int want) {
        CobblePorts x = Due.told("port 0;port 0;port 0;port 0;stones 1 1 6;plain 1 1;plain 1 2;tariff " + expr + ";");
        x.sail(0, 2, 0);
        x.sail(1, 3, 0);
        DUE.is(expr, x.voyage(1, 5), want);
    }
}
