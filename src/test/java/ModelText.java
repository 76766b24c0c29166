import java.util.ArrayList;
import java.util.List;
import java.util.Set;

/** Reads a TEXT another way than the program: a row of tokens, what may come next, and sides split at the last sign. */
final class ModelText {
    private static final Set<String> KINDS = Set.of("plain", "picky", "homesick", "proud");
    private static final Set<String> VALUES = Set.of("square", "origin", "from", "to", "many", "month");

    final List<int[]> ports = new ArrayList<>();
    final List<int[]> stones = new ArrayList<>();
    final List<int[]> ships = new ArrayList<>();
    List<String> tariff = null;
    int fault = 0;
    int place = -1;

    private final List<String> tokens = new ArrayList<>();
    private final List<Integer> places = new ArrayList<>();
    private int at = 0;

    ModelText(String text) {
        java.util.regex.Matcher m = java.util.regex.Pattern.compile("[a-z]+|[0-9]+|[^ \n]", java.util.regex.Pattern.DOTALL).matcher(text);
        while (m.find()) {
            tokens.add(m.group());
            places.add(m.start());
        }
        tokens.add("");
        places.add(text.length());
        while (fault == 0 && !peek().isEmpty()) {
            line();
        }
    }

    private String peek() {
        return tokens.get(at);
    }

    private void line() {
        String first = peek();
        if (first.equals("port")) {
            at(ports.size() == 6 ? 2 : 0);
            int need = number(0, 40);
            int weight = 1;
            if (fault == 0 && peek().equals("weight")) {
                at++;
                weight = number(0, 99);
            }
            end();
            ports.add(new int[] {need, weight});
        } else if (first.equals("stones")) {
            at(0);
            int port = port();
            int many = number(1, Math.min(20, 40 - stones.size()));
            int square = number(0, 9);
            end();
            for (int i = 0; i < many; i++) {
                stones.add(new int[] {port, square});
            }
        } else if (KINDS.contains(first)) {
            at(ships.size() == 5 ? 2 : 0);
            int hold = number(1, 8);
            int port = port();
            end();
            ships.add(new int[] {List.of("plain", "picky", "homesick", "proud").indexOf(first), hold, port});
        } else if (first.equals("tariff")) {
            at(tariff != null ? 4 : 0);
            if (fault == 0) {
                expr();
            }
        } else {
            at(1);
        }
    }

    /* Passes a token, unless it has a fault. */
    private void at(int number) {
        if (fault != 0) {
            return;
        }
        if (number != 0) {
            fault = number;
            place = places.get(at);
        } else {
            at++;
        }
    }

    private void end() {
        at(peek().equals(";") ? 0 : 1);
    }

    private int number(int least, int most) {
        String token = peek();
        if (token.isEmpty() || !Character.isDigit(token.charAt(0))) {
            at(1);
            return 0;
        }
        boolean good = token.length() <= 4 && Integer.parseInt(token) >= least && Integer.parseInt(token) <= most;
        at(good ? 0 : 2);
        return good ? Integer.parseInt(token) : 0;
    }

    private int port() {
        String token = peek();
        if (token.matches("[0-9]{1,4}") && Integer.parseInt(token) >= ports.size()) {
            at(3);
            return 0;
        }
        return number(0, 9999);
    }

    private void expr() {
        int from = at;
        List<Boolean> tested = new ArrayList<>();
        tested.add(false);
        boolean operand = true;
        boolean notMay = true;
        boolean begins = true;
        int nots = 0;
        while (fault == 0) {
            String t = peek();
            boolean word = t.matches("[a-z]+");
            boolean digits = t.matches("[0-9]+");
            if (operand) {
                if (!word && !digits && !t.equals("(")) {
                    at(1);
                } else if (begins && tested.size() == 7) {
                    at(2);
                } else if (digits) {
                    at(t.length() > 4 ? 2 : 0);
                    operand = false;
                } else if (t.equals("(")) {
                    at(0);
                    tested.add(false);
                    begins = true;
                    notMay = true;
                    nots = 0;
                    continue;
                } else if (t.equals("not") && notMay) {
                    nots++;
                    at(nots == 7 ? 2 : 0);
                } else {
                    at(VALUES.contains(t) ? 0 : 3);
                    operand = false;
                }
                begins = false;
                continue;
            }
            nots = 0;
            int top = tested.size() - 1;
            if (t.equals(";") && top == 0) {
                tariff = new ArrayList<>(tokens.subList(from, at));
                at(0);
                return;
            }
            if (t.equals(")") && top > 0) {
                at(0);
                tested.remove(top);
            } else if (t.equals("+") || t.equals("-") || t.equals("*") || t.equals("/")) {
                at(0);
                operand = true;
                notMay = false;
            } else if ((t.equals("<") || t.equals("=")) && !tested.get(top)) {
                at(0);
                tested.set(top, true);
                operand = true;
                notMay = false;
            } else if (t.equals("and") || t.equals("or")) {
                at(0);
                tested.set(top, false);
                operand = true;
                notMay = true;
            } else {
                at(1);
            }
        }
    }

    /** Values in the order square, origin, from, to, many, month. */
    static int value(List<String> expr, int[] values) {
        for (Set<String> signs : List.of(Set.of("or"), Set.of("and"))) {
            int cut = lastOf(expr, signs);
            if (cut >= 0) {
                return both(expr, cut, values);
            }
        }
        if (expr.get(0).equals("not")) {
            return value(expr.subList(1, expr.size()), values) == 0 ? 1 : 0;
        }
        for (Set<String> signs : List.of(Set.of("<", "="), Set.of("+", "-"), Set.of("*", "/"))) {
            int cut = lastOf(expr, signs);
            if (cut >= 0) {
                return both(expr, cut, values);
            }
        }
        String part = expr.get(0);
        if (part.equals("(")) {
            return value(expr.subList(1, expr.size() - 1), values);
        }
        int name = List.of("square", "origin", "from", "to", "many", "month").indexOf(part);
        return name >= 0 ? values[name] : Integer.parseInt(part);
    }

    private static int both(List<String> expr, int cut, int[] values) {
        int a = value(expr.subList(0, cut), values);
        int b = value(expr.subList(cut + 1, expr.size()), values);
        switch (expr.get(cut)) {
            case "or": return a != 0 || b != 0 ? 1 : 0;
            case "and": return a != 0 && b != 0 ? 1 : 0;
            case "<": return a < b ? 1 : 0;
            case "=": return a == b ? 1 : 0;
            case "+": return a + b;
            case "-": return a - b;
            case "*": return a * b;
            default: return b == 0 ? 0 : (int) ((long) a / b);
        }
    }

    private static int lastOf(List<String> expr, Set<String> signs) {
        int depth = 0;
        for (int i = expr.size() - 1; i >= 0; i--) {
            String t = expr.get(i);
            depth += t.equals(")") ? 1 : t.equals("(") ? -1 : 0;
            if (depth == 0 && signs.contains(t)) {
                return i;
            }
        }
        return -1;
    }
}
