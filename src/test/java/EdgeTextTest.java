/** The boundary cases of promises 1 to 4, and of the text that tells a WORLD, sentence by sentence. */
public final class EdgeTextTest {
    private static final Due DUE = new Due();
    private static final int[] FAR = {-1, Integer.MIN_VALUE, Integer.MAX_VALUE};

    public static void main(String[] args) {
        nothingAtFirst();
        highestByteFirst();
        howManyBytes();
        noMoreThanSixHundred();
        firstBytes();
        tapeIsEmptyThen();
        notSoManyBytes();
        allStaysButStatus();
        allIsGone();
        latestFault();
        everyByte();
        blanks();
        longestRows();
        everyLetter();
        ranges();
        limits();
        endsTooSoon();
        cannotStand();
        firstAlongTheText();
        leastOfOneToken();
        portsToldAhead();
        words();
        parentheses();
        notsSideBySide();
        secondTariff();
        wholeTape();
        DUE.end();
    }

    private static void nothingAtFirst() {
        DUE.about("Promise 1: No PORTS, nothing.");
        for (int i : new int[] {0, 1, -1, Integer.MIN_VALUE, Integer.MAX_VALUE}) {
            CobblePorts x = new CobblePorts();
            DUE.noSuch("port", () -> x.port(i, 0));
            DUE.noSuch("stone", () -> x.stone(i, 0));
            DUE.noSuch("street", () -> x.street(i, 0));
            DUE.noSuch("ship", () -> x.ship(i, 0));
            DUE.noSuch("sail", () -> x.sail(i, 0, 0));
            DUE.noSuch("voyage", () -> x.voyage(i, 0));
            DUE.noSuch("gap", () -> x.gap(i, 0));
            DUE.noSuch("met", () -> x.met(i, i));
            DUE.noSuch("horse", () -> x.horse(i, 0));
            DUE.noSuch("leg", () -> x.leg(i, 0));
            DUE.noSuch("best", () -> x.best(i));
            DUE.noSuch("read", () -> x.read(i, 0, 0));
            DUE.noSuch("load", () -> x.load(i));
            DUE.noSuch("took", () -> x.took(i, 0, 0, 0, 0));
            DUE.noSuch("flood", () -> x.flood(i, 0, 0));
            x.forget();
            DUE.is("fault", x.fault(), -1);
            DUE.is("undo", x.undo(), -1);
            DUE.is("restore", x.restore() ? 1 : 0, 0);
            for (int what = 0; what < 12; what++) {
                DUE.is("count " + what, x.count(what), 0);
            }
        }
    }

    private static void highestByteFirst() {
        DUE.about("Promise 2: Twenty bytes come behind the tape, of each number the highest first");
        for (int place = 0; place < 20; place++) {
            CobblePorts x = new CobblePorts();
            int[] fed = {0x20202020, 0x20202020, 0x20202020, 0x20202020, 0x20202020};
            fed[place / 4] ^= 0xE0 << 24 - place % 4 * 8;
            x.feed(fed[0], fed[1], fed[2], fed[3], fed[4]);
            DUE.is("a byte that is none", x.world(20), 1);
            DUE.is("its place", x.fault(), place);
        }
        CobblePorts x = new CobblePorts();
        x.feed(0x20202020, 0x20202020, 0x20202020, 0x20202020, 0x2020706f);
        x.feed(0x72742033, 0x393b2020, 0x20202020, 0x20202020, 0x20202020);
        DUE.is("a word over the end of twenty", x.world(27), 0);
        DUE.is("its number", x.port(0, 0), 39);
    }

    private static void howManyBytes() {
        DUE.about("Promise 2: how many it has");
        CobblePorts x = new CobblePorts();
        DUE.is("the first", x.feed(0, 0, 0, 0, 0), 20);
        DUE.is("the second", x.feed(-1, -1, -1, -1, -1), 40);
        DUE.is("count 8", x.count(8), 40);
        x.world(0);
        DUE.is("from 0 again", x.feed(0, 0, 0, 0, 0), 20);
    }

    private static void noMoreThanSixHundred() {
        DUE.about("Promise 2: NONE, and none come, if it would have more than 600");
        CobblePorts x = new CobblePorts();
        Due.feed(x, "port 7;" + " ".repeat(566) + "port 9;");
        DUE.is("580 bytes and twenty", x.feed(0x706f7274, 0x2031373b, 0x20202020, 0x20202020, 0x20202020), 600);
        DUE.is("600 and twenty", x.feed(0, 0, 0, 0, 0), -1);
        DUE.is("once more", x.feed(-1, -1, -1, -1, -1), -1);
        DUE.is("none came", x.count(8), 600);
        DUE.is("no status of it", x.count(9) + x.count(10) + x.count(11), 0);
        DUE.is("all 600 as they were fed", x.world(600), 0);
        DUE.is("ports", x.count(0), 3);
        DUE.is("the last one", x.port(2, 0), 17);
    }

    private static void firstBytes() {
        DUE.about("Promise 3: The tape's first n bytes are a WORLD");
        CobblePorts x = new CobblePorts();
        Due.feed(x, "port 5;x");
        DUE.is("not the byte behind", x.world(7), 0);
        Due.feed(x, "port 5;x");
        DUE.is("that byte too", x.world(8), 1);
        Due.feed(x, "port 405;");
        fault(x, 8, 2, 5, "port 405");
        Due.feed(x, "port 405;");
        fault(x, 7, 1, 7, "a number is cut");
        Due.feed(x, "tariff 12345;");
        fault(x, 11, 1, 11, "a number is cut to four digits");
        Due.feed(x, "port 1;plain 1 0;");
        fault(x, 11, 1, 7, "a word is cut");
        Due.feed(x, "port 1;tariff squares;");
        fault(x, 20, 1, 20, "a word is cut to a VALUE");
        Due.feed(x, "port 1;port 2;port 3;stones 0 9 9;");
        DUE.is("a longer text ahead", x.world(34), 0);
        Due.feed(x, "port 1;");
        DUE.is("a shorter one behind it", x.world(7), 0);
        DUE.is("has one port", x.count(0), 1);
        DUE.is("has no stones", x.count(1), 0);
        Due.feed(x, "x");
        DUE.is("no bytes of a tape that has some", x.world(0), 0);
        DUE.is("no ports", x.count(0), 0);
    }

    private static void tapeIsEmptyThen() {
        DUE.about("Promise 3: (it is empty then)");
        CobblePorts x = new CobblePorts();
        Due.feed(x, "port 5;" + " ".repeat(40));
        x.world(7);
        DUE.is("behind a world of some of it", x.count(8), 0);
        DUE.illegal("nothing is left", () -> x.world(1));
        Due.feed(x, "port 5?" + " ".repeat(40));
        DUE.is("a fault", x.world(7), 1);
        DUE.is("behind a fault", x.count(8), 0);
        DUE.illegal("nothing is left behind a fault", () -> x.world(1));
        DUE.is("the next twenty", x.feed(0x706f7274, 0x20363b20, 0x20202020, 0x20202020, 0x20202020), 20);
        DUE.is("are its first", x.world(20), 0);
        DUE.is("need", x.port(0, 0), 6);
    }

    private static void notSoManyBytes() {
        DUE.about("Promise 3: IllegalArgumentException: the tape has not so many, n below 0 (nothing changes)");
        CobblePorts x = rich();
        Due.feed(x, "port 1");
        DUE.is("a fault", x.world(6), 1);
        Due.feed(x, " ".repeat(40));
        String ahead = Due.dump(x);
        DUE.illegal("one too many", () -> x.world(41));
        DUE.illegal("all of 600", () -> x.world(600));
        for (int n : FAR) {
            DUE.illegal("far " + n, () -> x.world(n));
        }
        DUE.is("nothing changes", Due.dump(x), ahead);
        DUE.is("the fault's place neither", x.fault(), 6);
        DUE.is("the tape neither", x.count(8), 40);
        DUE.is("the image neither", x.restore() ? 1 : 0, 1);
        DUE.is("all of it", x.world(40), 0);
        CobblePorts empty = new CobblePorts();
        DUE.illegal("of an empty tape", () -> empty.world(1));
        DUE.is("none of an empty tape", empty.world(0), 0);
    }

    private static void allStaysButStatus() {
        DUE.about("Promise 3: the FAULT (all stays, but STATUS)");
        String[] texts = {"?", "port 41;", "stones 0 1 1;", "tariff 1;tariff 1;", "port 9;port 9;port 9;stones 2 9 9;proud 8 2;tariff 7;x"};
        int[] faults = {1, 2, 3, 4, 1};
        for (int i = 0; i < texts.length; i++) {
            CobblePorts x = rich();
            String ahead = Due.dump(x);
            DUE.is(texts[i], Due.tell(x, texts[i]), faults[i]);
            DUE.is("status 0", x.count(9), 1);
            DUE.is("all stays", Due.dump(x).replace("status 1 ", "status 0 "), ahead);
            DUE.is("the image stays", x.restore() ? 1 : 0, 1);
            DUE.is("with its status", x.count(9), 0);
        }
        CobblePorts x = rich();
        Due.tell(x, "port 1;port 1;stones 0 5 5;plain 8 0;tariff 9;x");
        DUE.is("the tariff stays: a voyage", x.sail(0, 0, 0), 2);
        DUE.is("by square", x.voyage(2, 5), 8);
    }

    private static void allIsGone() {
        DUE.about("Promise 3: all anew; VOYAGES, LEGS, what was READ, LOADS that are kept, the image are gone");
        String text = "port 2;port 4 weight 3;stones 0 4 4;plain 2 0;plain 1 1;";
        CobblePorts x = rich();
        x.flood(0, 1, 1);
        DUE.is("loads are kept", x.load(0), 2);
        DUE.is("told", Due.tell(x, text), 0);
        DUE.is("as on a new object", Due.dump(x), Due.dump(Due.told(text)).replace("refused 0 0", "refused 1 1"));
        DUE.is("voyages", x.count(3), 0);
        DUE.is("legs", x.count(4), 0);
        DUE.is("read", x.count(5), 0);
        DUE.noSuch("loads", () -> x.load(0));
        DUE.is("the image", x.restore() ? 1 : 0, 0);
        x.sail(0, 1, 0);
        DUE.is("no tariff", x.voyage(0, 5), 0);
        DUE.is("what was flooded", x.undo(), 0);
        CobblePorts empty = rich();
        DUE.is("an empty text", empty.world(0), 0);
        DUE.is("no ports, stones, ships", empty.count(0) + empty.count(1) + empty.count(2), 0);
        DUE.noSuch("no loads", () -> empty.load(0));
        DUE.is("no image", empty.restore() ? 1 : 0, 0);
    }

    private static void latestFault() {
        DUE.about("Promise 4: The place of the latest world()'s FAULT; NONE without.");
        CobblePorts x = new CobblePorts();
        DUE.is("before all", x.fault(), -1);
        fault(x, "port 1;?", 1, 7);
        fault(x, "?", 1, 0);
        DUE.illegal("no world", () -> x.world(1));
        DUE.is("still", x.fault(), 0);
        Due.tell(x, "port 1;");
        DUE.is("without", x.fault(), -1);
        fault(x, " ".repeat(599) + "?", 1, 599);
        fault(x, "port 1" + " ".repeat(594), 1, 600);
        x.world(0);
        DUE.is("without, of nothing", x.fault(), -1);
    }

    private static void everyByte() {
        DUE.about("TOKENS: words (a .. z), NUMBERS, signs ; ( ) + - * / < = ; blanks (32, 10)");
        for (int b = 0; b < 256; b++) {
            char sign = (char) b;
            boolean letter = sign >= 'a' && sign <= 'z';
            boolean digit = sign >= '0' && sign <= '9';
            boolean blank = b == 32 || b == 10;
            CobblePorts x = new CobblePorts();
            if (blank) {
                DUE.is("a blank " + b, Due.tell(x, sign + "tariff" + sign + "1" + sign + ";" + sign), 0);
                fault("tariff " + sign + ";", 1, 8);
                continue;
            }
            fault(sign + ";", 1, 0);
            if (digit) {
                DUE.is("a digit " + b, Due.tell(x, "tariff " + sign + ";"), 0);
            } else if (letter) {
                fault("tariff " + sign + ";", 3, 7);
                fault("por" + sign + " 1;", sign == 't' ? 0 : 1, sign == 't' ? -1 : 0);
            } else {
                fault("tariff " + sign + ";", 1, sign == '(' ? 8 : 7);
            }
            boolean joins = "+-*/<=".indexOf(sign) >= 0;
            boolean right = joins || digit;
            fault("tariff 1" + sign + "1;", right ? 0 : 1, right ? -1 : sign == ';' ? 9 : 8);
        }
    }

    private static void blanks() {
        DUE.about("blanks (32, 10) between them count for nothing");
        CobblePorts x = new CobblePorts();
        DUE.is("none", Due.tell(x, "port1weight2;port3;stones0 1 2;tariff(square+1)*2or 3;"), 0);
        DUE.is("many", Due.tell(x, "\n\n port \n 1 \n\n weight  2\n; "), 0);
        DUE.is("weight", x.port(0, 1), 2);
        fault("por t 1;", 1, 0);
        fault("port 1 2;", 1, 7);
        fault("port 1\n2;", 1, 7);
        fault("tariff 1 000 0;", 1, 9);
    }

    private static void longestRows() {
        DUE.about("words (a .. z, the longest row)");
        fault("portport 1;", 1, 0);
        fault("por 1;", 1, 0);
        fault("tariffs 1;", 1, 0);
        fault("port 1 weights 2;", 1, 7);
        fault("port 1 weigh 2;", 1, 7);
        fault("tariff notnot 1;", 3, 7);
        fault("tariff 1 orr 1;", 1, 9);
        fault("tariff 1 an 1;", 1, 9);
        fault("tariff 1and1;", 0, -1);
        fault("tariff 1 andnot 1;", 1, 9);
        fault("tariff 1or not 1;", 0, -1);
        for (String word : new String[] {"stones 0 1 1", "plain 1 0", "picky 1 0", "homesick 1 0", "proud 1 0"}) {
            fault("port 1;" + word + ";", 0, -1);
            fault("port 1;s" + word + ";", 1, 7);
            fault("port 1;" + word.replaceFirst(" ", "s ") + ";", 1, 7);
            fault("port 1;" + word.substring(1) + ";", 1, 7);
        }
        for (String word : new String[] {"square", "origin", "from", "to", "many", "month"}) {
            fault("tariff " + word + ";", 0, -1);
            fault("tariff " + word + "s;", 3, 7);
            fault("tariff " + word.substring(1) + ";", 3, 7);
            fault("tariff " + word + word + ";", 3, 7);
        }
    }

    private static void everyLetter() {
        DUE.about("In quotes is what stands there");
        String[] lines = {"port 1", "stones 0 1 1", "plain 1 0", "picky 1 0", "homesick 1 0", "proud 1 0", "tariff 1", "weight"};
        for (String line : lines) {
            String ahead = line.equals("weight") ? "port 1 " : "port 1;";
            String behind = line.equals("weight") ? " 1;" : ";";
            fault(ahead + line + behind, 0, -1);
            for (int i = 0; i < line.length() && line.charAt(i) != ' '; i++) {
                fault(ahead + changed(line, i) + behind, 1, 7);
            }
        }
        for (String word : new String[] {"square", "origin", "from", "to", "many", "month", "not 1"}) {
            fault("tariff " + word + ";", 0, -1);
            for (int i = 0; i < word.length() && word.charAt(i) != ' '; i++) {
                fault("tariff " + changed(word, i) + ";", 3, 7);
            }
        }
        for (String word : new String[] {"and", "or"}) {
            fault("tariff 1 " + word + " 1;", 0, -1);
            for (int i = 0; i < word.length(); i++) {
                fault("tariff 1 " + changed(word, i) + " 1;", 1, 9);
            }
        }
    }

    private static String changed(String word, int i) {
        return word.substring(0, i) + 'x' + word.substring(i + 1);
    }

    private static void ranges() {
        DUE.about("NEED (0 to 40), WEIGHT (0 to 99), MANY 1 to 20, SQUARENESS (0 to 9), HOLD (1 to 8); 2: a NUMBER not as told");
        range("port ", 0, 40, ";");
        range("port 3 weight ", 0, 99, ";");
        range("port 0;stones 0 ", 1, 20, " 1;");
        range("port 0;stones 0 1 ", 0, 9, ";");
        range("port 0;plain ", 1, 8, " 0;");
        range("port 0;picky ", 1, 8, " 0;");
        range("port 0;homesick ", 1, 8, " 0;");
        range("port 0;proud ", 1, 8, " 0;");
        DUE.about("2: a NUMBER of 5 digits or more, or (not in an EXPR) not as told");
        range("tariff ", 0, 9999, ";");
        range("tariff 1+(2*", 0, 9999, ");");
        DUE.about("a WEIGHT (1 without)");
        DUE.is("without", Due.told("port 3;").port(0, 1), 1);
        DUE.is("of the next, without", Due.told("port 3 weight 9;port 3;").port(1, 1), 1);
    }

    /* The last that is as told, with zeros ahead too, and all beside it. */
    private static void range(String ahead, int least, int most, String behind) {
        int place = ahead.length();
        for (int good : new int[] {least, most}) {
            fault(ahead + good + behind, 0, -1);
            fault(ahead + String.format("%04d", good) + behind, 0, -1);
            fault(ahead + String.format("%05d", good) + behind, 2, place);
        }
        if (least > 0) {
            fault(ahead + (least - 1) + behind, 2, place);
        }
        for (String much : new String[] {"" + (most + 1), "10000", "99999", "4294967296", "18446744073709551617", "00000000000000000001"}) {
            fault(ahead + much + behind, 2, place);
        }
        if (most < 9999) {
            fault(ahead + "9999" + behind, 2, place);
        }
        fault(ahead + "-1" + behind, 1, place);
    }

    private static void limits() {
        DUE.about("PORTS (at most 6); 2: the first TOKEN of the 7th PORT");
        DUE.is("six", Due.told("port 1;".repeat(6)).count(0), 6);
        fault("port 1;".repeat(6) + "port 1;", 2, 42);
        fault("port 1;".repeat(6) + " port", 2, 43);
        fault("port 1;".repeat(6) + "ports", 1, 42);
        DUE.about("STONES (at most 40); 2: MANY by which there are more than 40 STONES");
        DUE.is("forty", Due.told("port 1;stones 0 20 1;stones 0 20 1;").count(1), 40);
        fault("port 1;stones 0 20 1;stones 0 20 1;stones 0 1 1;", 2, 44);
        fault("port 1;stones 0 20 1;stones 0 15 1;stones 0 5 1;", 0, -1);
        fault("port 1;stones 0 20 1;stones 0 15 1;stones 0 6 1;", 2, 44);
        fault("port 1;stones 0 20 1;stones 0 20 1;stones 0 0 1;", 2, 44);
        fault("port 1;stones 0 20 1;stones 0 20 1;stones 0 ;", 1, 44);
        fault("port 1;stones 0 20 1;stones 0 20 1;stones 1 1 1;", 3, 42);
        DUE.about("SHIPS (at most 5); 2: the first TOKEN of the 6th SHIP");
        String five = "port 1;plain 1 0;picky 1 0;homesick 1 0;proud 1 0;plain 1 0;";
        DUE.is("five", Due.told(five).count(2), 5);
        for (String kind : new String[] {"plain", "picky", "homesick", "proud"}) {
            fault(five + kind + " 1 0;", 2, five.length());
            fault(five + kind, 2, five.length());
        }
        fault(five + "plai", 1, five.length());
    }

    private static void endsTooSoon() {
        DUE.about("1: the text's length where it ends too soon");
        String[] starts = {"port", "port 1", "port 1 weight", "port 1 weight 2", "port 1;stones", "port 1;stones 0", "port 1;stones 0 1",
            "port 1;stones 0 1 1", "port 1;plain", "port 1;picky 1", "port 1;proud 1 0", "tariff", "tariff 1", "tariff not", "tariff 1 or",
            "tariff 1 and", "tariff 1<", "tariff 1=", "tariff 1+", "tariff 1-", "tariff 1*", "tariff 1/", "tariff (", "tariff (1", "tariff (1)",
            "tariff square", "tariff ((((((", "tariff not not not not not not"};
        for (String start : starts) {
            fault(start, 1, start.length());
        }
        for (String start : starts) {
            fault(start + " \n ", 1, start.length() + 3);
        }
    }

    private static void cannotStand() {
        DUE.about("1: a TOKEN that can't stand there, or is none");
        String[] texts = {"^;", "^1;", "^weight 1;", "^not 1;", "^(port 1);", "port ^;", "port ^weight 1;", "port ^(1);", "port 1 ^1;", "port 1 ^(;",
            "port 1 weight ^;", "port 1 weight ^x;", "port 1 weight 1 ^weight 1;", "port 1;^;", "port 1;stones ^x 1 1;", "port 1;stones 0 ^x 1;",
            "port 1;stones 0 1 ^x;", "port 1;stones 0 1 1 ^1;", "port 1;plain ^x 0;", "port 1;plain 1 ^x;", "port 1;plain 1 0 ^0;",
            "port 1;plain 1 0 ^weight 1;", "tariff ^);", "tariff ^<1;", "tariff ^=1;", "tariff ^+1;", "tariff ^*1;", "tariff 1 ^2;", "tariff 1 ^(2);",
            "tariff 1 ^square;", "tariff 1 ^not 2;", "tariff square ^1;", "tariff (1) ^2;", "tariff (1)^(2);", "tariff 1^);", "tariff (1^;",
            "tariff (^);", "tariff 1<2^<3;", "tariff 1<2^=3;", "tariff 1=2^<3;", "tariff 1=2^=3;", "tariff 1+^+2;", "tariff 1*^/2;", "tariff 1 and ^;",
            "tariff not ^;", "tariff 1 or ^);", "tariff 1;^1;", "tariff 1^,2;", "port 1^.5;", "^PORT 1;", "port 1^:"};
        for (int i = 0; i < texts.length; i++) {
            fault(texts[i].replace("^", ""), 1, texts[i].indexOf('^'));
        }
        DUE.about("1: one test alone in a NOT, another one behind 'and', 'or', in parentheses");
        fault("tariff 1<2 and 2<3 or 3=4;", 0, -1);
        fault("tariff not 1<2 and not 2<3;", 0, -1);
        fault("tariff (1<2)<(3=4);", 0, -1);
        fault("tariff 1<(2<3);", 0, -1);
    }

    private static void firstAlongTheText() {
        DUE.about("FAULTS, the first along the text, at a TOKEN's first byte");
        fault("tariff 1;tariff 2;port 41;?", 4, 9);
        fault("tariff cheap;port 41;?", 3, 7);
        fault("port 41;?", 2, 5);
        fault("port 1?;port 41;", 1, 6);
        fault("port 10000 ?", 2, 5);
        fault("port    12345", 2, 8);
        fault("tariff 1+\n\n  cheap", 3, 13);
        fault("port 41 41;", 2, 5);
        fault("port 1;plain 0 1;", 2, 13);
        fault("port 1;plain 1 1;plain 0 0;", 3, 15);
        fault("port 1;stones 1 0 10;", 3, 14);
        fault("port 1;stones 0 0 10;", 2, 16);
    }

    private static void leastOfOneToken() {
        DUE.about("FAULTS, of one TOKEN the least");
        String six = "port 1;".repeat(5) + "port 1";
        fault(six + " port", 1, six.length() + 1);
        fault(six + " 12345", 1, six.length() + 1);
        fault("12345", 1, 0);
        fault("tariff 1 12345;", 1, 9);
        fault("tariff (1)12345;", 1, 10);
        fault("tariff 1 tariff 2;", 1, 9);
        fault("tariff tariff 2;", 3, 7);
        fault("port 1;stones 12345 1 1;", 2, 14);
        fault("port 1;plain 1 12345;", 2, 15);
        fault("tariff ((((((cheap", 2, 13);
        fault("tariff ((((((12345", 2, 13);
        fault("tariff 1 not not not not not not not 1;", 1, 9);
        fault("tariff not not not not not not or;", 3, 31);
        String five = "port 1;" + "plain 1 0;".repeat(4) + "plain 1 0";
        fault(five + " plain", 1, five.length() + 1);
    }

    private static void portsToldAhead() {
        DUE.about("3: a PORT that isn't told ahead");
        fault("stones 0 1 1;port 1;", 3, 7);
        fault("plain 1 0;port 1;", 3, 8);
        for (int ports = 1; ports <= 6; ports++) {
            String told = "port 1;".repeat(ports);
            fault(told + "stones " + (ports - 1) + " 1 1;plain 1 " + (ports - 1) + ";", 0, -1);
            fault(told + "stones " + ports + " 1 1;", 3, told.length() + 7);
            fault(told + "homesick 1 " + ports + ";", 3, told.length() + 11);
        }
        fault("port 1;stones 9999 1 1;", 3, 14);
        fault("port 1;stones 0000 1 1;", 0, -1);
        fault("port 1;stones 1 1 1;port 1;", 3, 14);
        fault("port 1;plain 1 1", 3, 15);
    }

    private static void words() {
        DUE.about("3: any word where a PART must stand that is no VALUE");
        String[] places = {"tariff ", "tariff not ", "tariff (", "tariff 1+", "tariff 1-", "tariff 1*", "tariff 1/", "tariff 1<", "tariff 1=",
            "tariff 1 and ", "tariff 1 or "};
        for (String place : places) {
            for (String word : new String[] {"cheap", "and", "or", "port", "tariff", "weight", "stones", "plain"}) {
                fault(place + word, 3, place.length());
            }
            boolean part = "+-*/<=".indexOf(place.charAt(place.length() - 1)) >= 0;
            fault(place + "not 1" + (place.endsWith("(") ? ")" : "") + ";", part ? 3 : 0, part ? place.length() : -1);
        }
    }

    private static void parentheses() {
        DUE.about("2: the first TOKEN of an EXPR within 6 others (a NUMBER, any word, a parenthesis)");
        fault("tariff (((((1)))));", 0, -1);
        fault("tariff (((((1)))))*(((((2)))))<(((((3)))));", 0, -1);
        fault("tariff not (not (not (not (not (not 1)))));", 0, -1);
        for (String first : new String[] {"1", "12345", "square", "cheap", "and", "or", "not", "tariff", "(", "(("}) {
            fault("tariff ((((((" + first, 2, 13);
            fault("tariff 1+(2*(3<(4 and (5 or (not ( " + first, 2, 35);
        }
        for (String first : new String[] {")", ";", "+", "-", "*", "/", "<", "=", "?", "", " "}) {
            fault("tariff ((((((" + first, 1, first.equals(" ") ? 14 : 13);
        }
        String closed = "tariff (((((1)+(2)))))+((((((";
        fault(closed + "3", 2, closed.length());
    }

    private static void notsSideBySide() {
        DUE.about("2: the seventh 'not' side by side");
        String six = "not not not not not not ";
        fault("tariff " + six + "1;", 0, -1);
        fault("tariff " + six + "not 1;", 2, 31);
        fault("tariff " + six + "not", 2, 31);
        fault("tariff " + six + "(" + six + "1);", 0, -1);
        fault("tariff " + six + "(" + six + "not 1);", 2, 56);
        fault("tariff " + six + "1 or " + six + "1 and " + six + "1;", 0, -1);
        fault("tariff 1 and " + six + "not 1;", 2, 37);
        fault("tariff 1 or " + six + "not 1;", 2, 36);
        fault("tariff " + six + ";", 1, 31);
    }

    private static void secondTariff() {
        DUE.about("4: a second 'tariff'");
        CobblePorts x = new CobblePorts();
        fault("tariff 0;", 0, -1);
        fault("tariff 0;tariff 0;", 4, 9);
        fault("tariff 0;port 1; tariff", 4, 17);
        fault("tariff 0;tariff", 4, 9);
        DUE.is("the first of another text", Due.tell(x, "tariff 1;"), 0);
    }

    private static void wholeTape() {
        DUE.about("A TEXT of at most 600 bytes tells it");
        CobblePorts x = new CobblePorts();
        String lines = "port 0;port 0;stones 0 1 1;plain 1 0;tariff 1";
        int more = (600 - lines.length() - 1) / 2;
        String text = lines + "+1".repeat(more) + " ".repeat((600 - lines.length() - 1) % 2) + ";";
        DUE.is("600 bytes", text.length(), 600);
        DUE.is("all of them", Due.tell(x, text), 0);
        x.sail(0, 1, 0);
        DUE.is("to the last", x.voyage(0, 5), more + 1);
        fault(text.substring(0, 599) + "?", 1, 599);
        fault(text.substring(0, 599) + "1", 1, 600);
        fault(";".repeat(600), 1, 0);
        fault("(".repeat(600), 1, 0);
        fault("tariff " + "(".repeat(593), 2, 13);
        fault("a".repeat(600), 1, 0);
        fault("1".repeat(600), 1, 0);
        fault("tariff " + "1".repeat(592) + ";", 2, 7);
        fault("tariff " + "a".repeat(592) + ";", 3, 7);
    }

    private static CobblePorts rich() {
        CobblePorts x = Due.told("port 1;port 9 weight 3;stones 0 3 4;stones 1 1 5;plain 2 0;picky 1 1;tariff square;");
        x.image();
        x.sail(0, 1, 0);
        x.sail(1, 0, 0);
        x.sail(0, 1, 0);
        x.leg(0, 0);
        x.leg(1, 1);
        x.read(0, 0, 1);
        x.read(0, 0, 41);
        x.best(0);
        return x;
    }

    private static void fault(CobblePorts x, int n, int number, int place, String name) {
        DUE.is("world of " + name, x.world(n), number);
        DUE.is("fault of " + name, x.fault(), place);
    }

    private static void fault(String text, int number, int place) {
        fault(new CobblePorts(), text, number, place);
    }

    private static void fault(CobblePorts x, String text, int number, int place) {
        DUE.is("world of " + text, Due.tell(x, text), number);
        DUE.is("fault of " + text, x.fault(), place);
    }
}
