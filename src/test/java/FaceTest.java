import java.io.IOException;
import java.lang.reflect.Constructor;
import java.lang.reflect.Field;
import java.lang.reflect.Method;
import java.lang.reflect.Modifier;
import java.nio.file.Files;
import java.nio.file.Path;
import java.util.Arrays;
import java.util.List;
import java.util.Set;
import java.util.TreeSet;

/** The document's face, and what of LANGUAGE.md can be seen from outside or by searching the source. */
public final class FaceTest {
    private static final Due DUE = new Due();
    private static final Set<String> FACE = new TreeSet<>(List.of("feed 5 int", "world 1 int", "fault 0 int", "count 1 int", "port 2 int",
        "stone 2 int", "street 2 int", "ship 2 int", "sail 3 int", "undo 0 int", "voyage 2 int", "gap 2 int", "met 2 int", "horse 2 int",
        "leg 2 int", "forget 0 void", "best 1 int", "read 3 int", "fits 0 int", "load 1 int", "took 5 int", "flood 3 int", "image 0 void",
        "restore 0 boolean"));
    private static final List<String> BARRED = List.of("->", "::", "finally", "synchronized", "assert ", "Exact(", "getMessage", "System.out",
        "Random", "currentTimeMillis", "nanoTime", "catch", "hashCode", "toString", "Object", "Integer.", "double", "float", "package ",
        "while (true", "for (;;");

    public static void main(String[] args) throws IOException {
        face();
        insides();
        source();
        DUE.end();
    }

    private static void face() {
        Class<CobblePorts> c = CobblePorts.class;
        DUE.is("public and final", Modifier.toString(c.getModifiers()), "public final");
        DUE.is("NONE", CobblePorts.NONE, -1);
        Set<String> seen = new TreeSet<>();
        for (Method m : c.getDeclaredMethods()) {
            if (m.isSynthetic()) {
                continue;
            }
            if (Modifier.isPublic(m.getModifiers())) {
                seen.add(m.getName() + " " + m.getParameterCount() + " " + m.getReturnType());
                DUE.is(m.getName() + " belongs to an object", Modifier.isStatic(m.getModifiers()) ? 1 : 0, 0);
                DUE.is(m.getName() + " takes ints", Arrays.stream(m.getParameterTypes()).allMatch(t -> t == int.class) ? 1 : 0, 1);
            } else {
                DUE.is(m.getName() + " is private", Modifier.isPrivate(m.getModifiers()) ? 1 : 0, 1);
            }
        }
        DUE.is("the face", seen.toString(), FACE.toString());
        for (Field f : c.getDeclaredFields()) {
            DUE.is(f.getName() + " is private, or NONE", Modifier.isPrivate(f.getModifiers()) || f.getName().equals("NONE") ? 1 : 0, 1);
        }
        for (Constructor<?> k : c.getDeclaredConstructors()) {
            DUE.is("the constructor", k.getParameterCount(), 0);
        }
    }

    private static void insides() {
        Set<String> names = new TreeSet<>();
        FACE.forEach(m -> names.add(m.substring(0, m.indexOf(' '))));
        Class<?>[] inside = CobblePorts.class.getDeclaredClasses();
        DUE.is("at most twelve classes", inside.length < 12 ? 1 : 0, 1);
        for (Class<?> c : inside) {
            DUE.is(c.getSimpleName() + " is static", Modifier.isStatic(c.getModifiers()) ? 1 : 0, 1);
            for (Method m : c.getDeclaredMethods()) {
                DUE.is(c.getSimpleName() + "." + m.getName() + " bears a public name", names.contains(m.getName()) ? 1 : 0, 0);
                DUE.is(c.getSimpleName() + "." + m.getName() + " takes few", m.getParameterCount() <= 7 ? 1 : 0, 1);
            }
            for (Field f : c.getDeclaredFields()) {
                boolean changes = Modifier.isStatic(f.getModifiers()) && !Modifier.isFinal(f.getModifiers());
                DUE.is(c.getSimpleName() + "." + f.getName() + " changes for all", changes ? 1 : 0, 0);
            }
        }
    }

    private static void source() throws IOException {
        Path file = Path.of("src/main/java/CobblePorts.java");
        String text = Files.readString(file);
        for (String barred : BARRED) {
            DUE.is("the source has " + barred, text.contains(barred) ? 1 : 0, 0);
        }
        DUE.is("signs of the source", text.chars().allMatch(s -> s == 10 || s >= 32 && s < 127) ? 1 : 0, 1);
        List<String> lines = text.lines().toList();
        for (int i = 0; i < lines.size(); i++) {
            String line = lines.get(i);
            int deep = line.length() - line.stripLeading().length();
            boolean made = line.contains("new ") && !line.contains("throw new ") && !line.contains("private final ") && !line.contains("        final ");
            boolean trip = line.contains("trips[leg] = new Trip();");
            DUE.is("no call makes what stays in the room, line " + (i + 1), made && !trip ? 1 : 0, 0);
            if ((deep == 4 || deep == 8) && line.endsWith("{") && line.contains("(")) {
                int lasts = lines.subList(i, lines.size()).indexOf(" ".repeat(deep) + "}");
                DUE.is("sixty lines are enough from line " + (i + 1), lasts > 0 && lasts <= 60 ? 1 : 0, 1);
            }
        }
    }
}
