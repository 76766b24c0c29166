import java.lang.reflect.Array;
import java.lang.reflect.Field;
import java.lang.reflect.Modifier;
import java.util.ArrayDeque;
import java.util.Collections;
import java.util.Deque;
import java.util.IdentityHashMap;
import java.util.Set;

/** What an object holds is made with it, and stays as small whatever is called: all calls of a run live in one room. */
public final class RoomTest {
    private static final Due DUE = new Due();
    private static final int MOST_OBJECTS = 100;
    private static final int MOST_FIELDS = 5000;

    public static void main(String[] args) throws IllegalAccessException {
        CobblePorts x = new CobblePorts();
        Set<Object> first = held(x);
        DUE.is("few objects and arrays", first.size() <= MOST_OBJECTS ? 1 : first.size(), 1);
        DUE.is("few fields and elements", sizeOf(first) <= MOST_FIELDS ? 1 : sizeOf(first), 1);
        useAll(x);
        Set<Object> then = held(x);
        DUE.is("as many objects as at first", then.size(), first.size());
        then.removeAll(first);
        DUE.is("the very same ones", then.size(), 0);
        DUE.end();
    }

    private static void useAll(CobblePorts x) {
        for (int round = 0; round < 2; round++) {
            Due.tell(x, "port 9;port 9;port 9;stones 0 20 5;stones 1 20 5;plain 8 0;picky 8 1;homesick 8 1;proud 8 2;tariff (square+many)*month;");
            for (int i = 0; i < 31; i++) {
                x.sail(i % 4, (x.ship(i % 4, 3) + 1) % 3, i % 8);
            }
            x.image();
            x.undo();
            x.flood(0, 1, 60);
            for (int i = 0; i < 4; i++) {
                x.leg(i, i % 3);
                x.read(i % 3, 0, i);
            }
            x.best(0);
            x.fits();
            x.restore();
            Due.tell(x, "tariff (((((1+(");
        }
    }

    private static Set<Object> held(Object root) throws IllegalAccessException {
        Set<Object> seen = Collections.newSetFromMap(new IdentityHashMap<>());
        Deque<Object> open = new ArrayDeque<>();
        open.add(root);
        while (!open.isEmpty()) {
            Object one = open.remove();
            if (!seen.add(one)) {
                continue;
            }
            if (one instanceof Object[] row) {
                Collections.addAll(open, row);
            }
            for (Field f : one.getClass().getDeclaredFields()) {
                if (!Modifier.isStatic(f.getModifiers()) && !f.getType().isPrimitive()) {
                    f.setAccessible(true);
                    open.add(f.get(one));
                }
            }
        }
        return seen;
    }

    private static int sizeOf(Set<Object> all) {
        int size = 0;
        for (Object one : all) {
            if (one.getClass().isArray()) {
                size += Array.getLength(one);
                continue;
            }
            for (Field f : one.getClass().getDeclaredFields()) {
                size += Modifier.isStatic(f.getModifiers()) ? 0 : 1;
            }
        }
        return size;
    }
}
