import java.lang.reflect.Field;
import java.lang.reflect.Method;
import java.lang.reflect.Modifier;
import java.nio.file.Files;
import java.nio.file.Path;
import java.util.Arrays;
import java.util.List;
import java.util.Map;
import java.util.TreeMap;
import java.util.TreeSet;

/** The public face, and what of LANGUAGE.md can be seen from outside or from the lines. */
public final class FaceTest {
    private static final String I = "int ", L = "long ";
    private static final String[] FACE = {
        I + "ground 3", I + "groundOf 2", I + "move 3", I + "still 1", I + "moved 3", I + "offset 6", I + "unset 1",
        I + "trade 5", I + "find 4", L + "legOf 2", I + "value 2", I + "taken 2", L + "loss 2", L + "row 2",
        L + "risk 2", L + "told 1", I + "order 1", I + "used 2", L + "ordered 1", L + "would 5", I + "hedge 2",
        L + "share 2", I + "see 2", I + "fits 1", I + "plan 2", L + "ends 0", I + "feed 1", I + "read 0",
        I + "judge 3", I + "image 0", I + "undo 0", I + "count 1", I + "tape 3", I + "item 3", L + "peek 2",
        I + "shift 5"};

    private FaceTest() {
    }

    public static void main(String[] args) throws Exception {
        Due due = new Due();
        due.part("face");
        constants(due);
        methods(due);
        nested(due);
        due.part("lines");
        lines(due);
        due.end();
    }

    private static void constants(Due due) throws Exception {
        Map<String, Long> want = new TreeMap<>();
        want.put("NONE", -1L);
        want.put("BAD", -2L);
        want.put("STATE", -3L);
        want.put("FULL", -4L);
        want.put("OVER", -15L);
        want.put("NO", Long.MIN_VALUE);
        Map<String, Long> got = new TreeMap<>();
        for (Field f : LegHedge.class.getDeclaredFields()) {
            if (Modifier.isPublic(f.getModifiers())) {
                due.holds(f + " is static and final",
                        Modifier.isStatic(f.getModifiers()) && Modifier.isFinal(f.getModifiers()));
                due.holds(f + " is of its type", f.getType() == (f.getName().equals("NO") ? long.class : int.class));
                got.put(f.getName(), ((Number) f.get(null)).longValue());
            } else {
                due.holds(f + " is private", Modifier.isPrivate(f.getModifiers()));
            }
        }
        due.holds("constants are " + got, got.equals(want));
    }

    private static void methods(Due due) {
        due.holds("final", Modifier.isFinal(LegHedge.class.getModifiers()));
        due.is("constructors", LegHedge.class.getConstructors().length, 1);
        due.is("declared constructors", LegHedge.class.getDeclaredConstructors().length, 1);
        TreeSet<String> got = new TreeSet<>();
        for (Method m : LegHedge.class.getDeclaredMethods()) {
            if (m.isSynthetic()) {
                continue;
            }
            if (!Modifier.isPublic(m.getModifiers())) {
                due.holds(m + " is private", Modifier.isPrivate(m.getModifiers()));
                continue;
            }
            got.add(m.getReturnType() + " " + m.getName() + " " + m.getParameterCount());
            for (int i = 0; i < m.getParameterCount(); i++) {
                boolean isLong = m.getName().equals("item") && i == 2;
                due.holds(m + ", parameter " + i, m.getParameterTypes()[i] == (isLong ? long.class : int.class));
            }
        }
        TreeSet<String> want = new TreeSet<>(Arrays.asList(FACE));
        due.holds("methods are " + got, got.equals(want));
    }

    /** No private method, and none of a class inside, bears the name of a public one. */
    private static void nested(Due due) {
        TreeSet<String> names = new TreeSet<>();
        for (String line : FACE) {
            names.add(line.split(" ")[1]);
        }
        int classes = 1;
        for (Class<?> c : LegHedge.class.getDeclaredClasses()) {
            classes++;
            due.holds(c + " is static", Modifier.isStatic(c.getModifiers()));
            due.holds(c + " has few fields", c.getDeclaredFields().length <= 20);
            for (Method m : c.getDeclaredMethods()) {
                due.holds(m + " has a name of its own", !names.contains(m.getName()));
                due.holds(m + " is not public", !Modifier.isPublic(m.getModifiers()));
                due.holds(m + " has seven parameters at most", m.getParameterCount() <= 7);
            }
        }
        for (Method m : LegHedge.class.getDeclaredMethods()) {
            due.holds(m + " has a name of its own",
                    Modifier.isPublic(m.getModifiers()) || !names.contains(m.getName()));
        }
        due.holds("classes", classes <= 12);
    }

    private static void lines(Due due) throws Exception {
        List<String> lines = Files.readAllLines(Path.of("src/main/java/LegHedge.java"));
        String[] none = {"->", "::", "Exact(", "import ", "throw ", "catch ", "try ", "package ", "assert ",
            "synchronized", "instanceof", "static {", "System.out", "while (true)"};
        int start = 0;
        int longest = 0;
        for (int i = 0; i < lines.size(); i++) {
            String line = lines.get(i);
            for (String sign : none) {
                due.holds("line " + (i + 1) + " has no " + sign,
                        !line.contains(sign) || line.trim().startsWith("*") || line.trim().startsWith("/"));
            }
            due.holds("line " + (i + 1) + " is of plain signs", line.chars().allMatch(c -> c >= 32 && c < 127));
            if (line.isEmpty()) {
                start = i;
            }
            longest = Math.max(longest, line.isEmpty() ? 0 : i - start);
        }
        due.holds("the longest run of lines is " + longest, longest <= 60);
    }
}
