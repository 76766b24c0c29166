import java.util.Random;

/** All promises: long runs of calls, drawn by fixed seeds, answered by the program and by the slow model alike. */
public final class ModelTest {
    private static final Due DUE = new Due();
    private static final String[] WORDS = {"port", "stones", "plain", "picky", "homesick", "proud", "tariff", "weight", "and", "or", "not",
        "square", "origin", "from", "to", "many", "month", "cheap", "x"};
    /* With what is asked beside, an object is used for fewer than 512 calls. */
    private static final int CALLS_OF_A_RUN = 280;
    private static final int TEXTS_OF_AN_OBJECT = 15;
    private static final String SIGNS = ";()+-*/<=;;?A.";

    public static void main(String[] args) {
        int runs = args.length > 0 ? Integer.parseInt(args[0]) : 550;
        int texts = args.length > 1 ? Integer.parseInt(args[1]) : 40000;
        long seed = args.length > 2 ? Long.parseLong(args[2]) : 1;
        for (int run = 0; run < runs; run++) {
            run(new Random(seed * 1000003 + run), "run " + run);
        }
        texts(new Random(seed), texts);
        DUE.end();
    }

    private static void run(Random random, String name) {
        CobblePorts x = new CobblePorts();
        Model model = new Model();
        tell(x, model, name, world(random));
        int[] sizes = {x.count(0), x.count(1), x.count(2)};
        int lastHeavy = -100;
        for (int i = 0; i < CALLS_OF_A_RUN; i++) {
            int which = random.nextInt(70);
            boolean heavy = which >= 54 && which < 60;
            if (heavy && i - lastHeavy < (x.count(4) > 3 ? 60 : 15)) {
                continue;
            }
            lastHeavy = heavy ? i : lastHeavy;
            call(x, model, random, which, sizes, name + " call " + i);
        }
    }

    private static void call(CobblePorts x, Model model, Random random, int which, int[] sizes, String name) {
        int port = near(random, sizes[0]);
        int other = near(random, sizes[0]);
        int stone = near(random, sizes[1]);
        int stone2 = near(random, sizes[1]);
        int ship = near(random, sizes[2]);
        int small = near(random, 6);
        if (which < 22) {
            int cargo = random.nextInt(12) == 0 ? near(random, 9) : random.nextInt(3);
            same(name + " sail", () -> x.sail(ship, port, cargo), () -> model.sail(ship, port, cargo));
        } else if (which < 26) {
            same(name + " undo", x::undo, model::undo);
        } else if (which < 28) {
            int floods = random.nextInt(3) == 0 ? random.nextInt(64) - 2 : 0;
            int seed = random.nextInt();
            same(name + " flood", () -> x.flood(port, seed, floods), () -> model.flood(port, seed, floods));
        } else if (which < 29) {
            x.image();
            model.image();
        } else if (which < 30) {
            same(name + " restore", () -> x.restore() ? 1 : 0, () -> model.restore() ? 1 : 0);
        } else if (which < 31) {
            if (random.nextInt(20) == 0) {
                tell(x, model, name, random.nextBoolean() ? world(random) : spoiled(random, world(random)));
                sizes[0] = x.count(0);
                sizes[1] = x.count(1);
                sizes[2] = x.count(2);
            }
        } else if (which < 34) {
            same(name + " port", () -> x.port(port, small), () -> model.port(port, small));
        } else if (which < 38) {
            same(name + " stone", () -> x.stone(stone, small), () -> model.stone(stone, small));
        } else if (which < 41) {
            int place = near(random, 8);
            same(name + " street", () -> x.street(port, place), () -> model.street(port, place));
        } else if (which < 43) {
            same(name + " ship", () -> x.ship(ship, small), () -> model.ship(ship, small));
        } else if (which < 46) {
            int voyage = near(random, x.count(3));
            same(name + " voyage", () -> x.voyage(voyage, small), () -> model.voyage(voyage, small));
        } else if (which < 48) {
            int what = near(random, 12);
            same(name + " count", () -> x.count(what), () -> model.count(what));
        } else if (which < 49) {
            same(name + " gap", () -> x.gap(port, other), () -> model.gap(port, other));
        } else if (which < 52) {
            same(name + " met", () -> x.met(stone, stone2), () -> model.met(stone, stone2));
        } else if (which < 54) {
            same(name + " horse", () -> x.horse(port, other), () -> model.horse(port, other));
        } else {
            routeCall(x, model, random, which, new int[] {port, other, ship}, name);
        }
    }

    private static void routeCall(CobblePorts x, Model model, Random random, int which, int[] drawn, String name) {
        int port = drawn[0];
        int ship = drawn[2];
        if (which < 57) {
            same(name + " best", () -> x.best(port), () -> model.best(port));
            loads(x, model, name);
        } else if (which < 60) {
            same(name + " fits", x::fits, model::fits);
            loads(x, model, name);
        } else if (which < 63) {
            same(name + " leg", () -> x.leg(ship, port), () -> model.leg(ship, port));
        } else if (which < 65) {
            int many = random.nextInt(30) == 0 ? near(random, 41) : random.nextInt(4);
            same(name + " read", () -> x.read(port, drawn[1], many), () -> model.read(port, drawn[1], many));
        } else if (which < 66) {
            x.forget();
            model.forget();
        } else {
            int there = near(random, x.count(3));
            int gone = there + near(random, 8);
            int what = near(random, 2);
            same(name + " took", () -> x.took(port, ship, there, gone, what), () -> model.took(port, ship, there, gone, what));
        }
    }

    private static void loads(CobblePorts x, Model model, String name) {
        for (int i = -1; i < 5; i++) {
            int k = i;
            same(name + " load " + i, () -> x.load(k), () -> model.load(k));
        }
    }

    private static void tell(CobblePorts x, Model model, String name, String text) {
        Due.feed(x, text);
        model.feedText(text);
        int n = Math.min(text.length(), 600);
        same(name + " world of " + text, () -> x.world(n), () -> model.world(n));
        same(name + " fault of " + text, x::fault, model::fault);
    }

    private static void texts(Random random, int many) {
        CobblePorts x = new CobblePorts();
        Model model = new Model();
        for (int i = 0; i < many; i++) {
            if (i % TEXTS_OF_AN_OBJECT == 0) {
                x = new CobblePorts();
                model = new Model();
            }
            String text = random.nextInt(4) > 0 ? spoiled(random, world(random)) : scrap(random);
            tell(x, model, "text " + i, text);
            DUE.is("status", x.count(9), model.count(9));
        }
    }

    private static void same(String name, Due.Call program, Due.Call model) {
        DUE.is(name, Due.outcome(program), Due.outcome(model));
    }

    /* Mostly a number that there is; now and then one beside. */
    private static int near(Random random, int many) {
        int drawn = random.nextInt(25);
        return drawn == 0 ? -1 : drawn == 1 ? many : random.nextInt(Math.max(1, many));
    }

    private static String world(Random random) {
        StringBuilder text = new StringBuilder();
        int ports = 1 + random.nextInt(6);
        for (int i = 0; i < ports; i++) {
            text.append("port ").append(random.nextInt(10));
            text.append(random.nextInt(3) == 0 ? " weight " + random.nextInt(random.nextBoolean() ? 3 : 100) : "").append(";");
        }
        for (int i = random.nextInt(9); i > 0; i--) {
            text.append("stones ").append(random.nextInt(ports)).append(' ').append(1 + random.nextInt(5)).append(' ').append(random.nextInt(10)).append(";");
        }
        if (random.nextInt(4) > 0) {
            text.append("tariff ").append(expr(random, 3)).append(";");
        }
        for (int i = random.nextInt(6); i > 0; i--) {
            text.append(WORDS[2 + random.nextInt(4)]).append(' ').append(1 + random.nextInt(random.nextInt(4) == 0 ? 8 : 4));
            text.append(' ').append(random.nextInt(ports)).append(";");
        }
        return text.length() > 600 ? "port 3;stones 0 4 4;" : text.toString();
    }

    private static String expr(Random random, int deep) {
        int drawn = deep == 0 ? random.nextInt(2) : random.nextInt(12);
        String number = Integer.toString(random.nextInt(random.nextInt(5) == 0 ? 10000 : 4));
        switch (drawn) {
            case 0: return number;
            case 1: return WORDS[11 + random.nextInt(6)];
            case 2: return "not " + expr(random, deep - 1);
            case 3: return "(" + expr(random, deep - 1) + ")";
            default:
                String[] joins = {"+", "-", "*", "/", "<", "=", " and ", " or ", "+", "*"};
                return side(random, deep) + joins[random.nextInt(joins.length)] + side(random, deep);
        }
    }

    /* A side is put in parentheses where the grammar would refuse it else, and now and then where it wouldn't. */
    private static String side(Random random, int deep) {
        String side = expr(random, deep - 1);
        boolean bare = !side.contains("not ") && !side.contains("<") && !side.contains("=") && random.nextInt(3) > 0;
        return bare ? side : "(" + side + ")";
    }

    private static String spoiled(Random random, String text) {
        StringBuilder spoiled = new StringBuilder(text);
        for (int i = 1 + random.nextInt(2); i > 0; i--) {
            int at = random.nextInt(spoiled.length() + 1);
            switch (random.nextInt(4)) {
                case 0: spoiled.insert(at, token(random)); break;
                case 1: spoiled.setLength(at); break;
                case 2: spoiled.delete(at, Math.min(spoiled.length(), at + 1 + random.nextInt(3))); break;
                default: spoiled.replace(at, Math.min(spoiled.length(), at + 1), token(random)); break;
            }
        }
        return spoiled.length() > 600 ? spoiled.substring(0, 600) : spoiled.toString();
    }

    private static String scrap(Random random) {
        StringBuilder text = new StringBuilder(random.nextInt(3) == 0 ? "port 1;" : "tariff ");
        for (int i = random.nextInt(24); i > 0; i--) {
            text.append(random.nextInt(5) == 0 ? token(random) : random.nextInt(3) == 0 ? "(" : random.nextInt(3) == 0 ? " not " : "1+");
        }
        return text.toString();
    }

    private static String token(Random random) {
        switch (random.nextInt(5)) {
            case 0: return " " + WORDS[random.nextInt(WORDS.length)] + " ";
            case 1: return Integer.toString(random.nextInt(60));
            case 2: return Integer.toString(random.nextInt(200000));
            case 3: return random.nextBoolean() ? "\n" : "(";
            default: return String.valueOf(SIGNS.charAt(random.nextInt(SIGNS.length())));
        }
    }
}
