import java.io.IOException;
import java.lang.reflect.Constructor;
import java.lang.reflect.Field;
import java.lang.reflect.Method;
import java.lang.reflect.Modifier;
import java.nio.file.Files;
import java.nio.file.Path;
import java.util.List;
import java.util.Set;
import java.util.TreeSet;

/** 'The public face': each line of it stands in the class word for word, and nothing else is public. */
public final class FaceTest extends Bounds {
    private static final Path SOURCE = Path.of("src/main/java/DriftCards.java");
    private static final String[] SEA = {
        "public int paint(int x0, int x1, int y, int what, int v)", "public int cell(int x, int y, int what)",
        "public int current(int region, int month, int east, int north)", "public int wind(int month, int east, int north)",
        "public int storm(int month, int east, int north)", "public int calm(int month)"};
    private static final String[] CASTS = {
        "public int cast(int kind, int first, int many, int month, int place, int more)", "public int about(int c, int what)",
        "public int parts(int c, int months, int what)", "public int partsAt(int c, int months, int x, int y, int what)",
        "public int apart(int c, int d)"};
    private static final String[] FINDS = {
        "public int name(int x, int y, int tongue)", "public int find(int row, int caster, int name, int from, int to)",
        "public int clock(int t)", "public int drop(int f, int is)", "public int weight(int f, int c)", "public int judge(int f)",
        "public int best(int f)", "public int cards(int f)", "public int twin(int f)", "public int got(int c, int name, int asOf)"};
    private static final String[] SHIFTS = {
        "public int move(int region, int v)", "public int fit(int region)", "public long misfit()", "public long misses()",
        "public int doubt(int region)", "public int tells(int kind, int month, int place, int region)"};
    private static final String[] PRIZES = {
        "public int feed(long w, int n)", "public int prize()", "public int pays(int f)", "public int purse(int asOf)",
        "public int letters(int tongue, int asOf)", "public int count(int what)"};
    private static final String[][] CALLS = {SEA, CASTS, FINDS, SHIFTS, PRIZES};

    public static void main(String[] args) throws IOException {
        String source = Files.readString(SOURCE);
        theClass(source);
        constants(source);
        constructor();
        calls();
        says("Ahead of the calls `paint`, `cell`, `current`, `wind`, `storm`, `calm` the interface says: ---- the sea.");
        standTogether(source, SEA, "---- the sea", "---- casts");
        says("Ahead of the calls `cast`, `about`, `parts`, `partsAt`, `apart` the interface says: ---- casts.");
        standTogether(source, CASTS, "---- casts", "---- finds");
        says("Ahead of the calls `name`, `find`, `clock`, `drop`, `weight`, `judge`, `best`, `cards`, `twin`, `got` "
            + "the interface says: ---- finds.");
        standTogether(source, FINDS, "---- finds", "---- shifts");
        says("Ahead of the calls `move`, `fit`, `misfit`, `misses`, `doubt`, `tells` the interface says: ---- shifts.");
        standTogether(source, SHIFTS, "---- shifts", "---- prizes");
        says("Ahead of the calls `feed`, `prize`, `pays`, `purse`, `letters`, `count` the interface says: ---- prizes.");
        standTogether(source, PRIZES, "---- prizes", "private static boolean");
        end();
    }

    private static void holds(String what, boolean is) {
        due(what, is ? 1 : 0, 1);
    }

    private static void theClass(String source) {
        says("public final class DriftCards {");
        int is = DriftCards.class.getModifiers();
        holds("public and final", Modifier.isPublic(is) && Modifier.isFinal(is));
        holds("as it is written", source.contains("public final class DriftCards {"));
        holds("no package", DriftCards.class.getPackageName().isEmpty());
        holds("it is no other class's kind", DriftCards.class.getSuperclass() == Object.class && DriftCards.class.getInterfaces().length == 0);
    }

    private static void constants(String source) {
        says("public static final int NONE = -1, BAD = -2, STATE = -3, FULL = -4;");
        due("NONE", DriftCards.NONE, -1);
        due("BAD", DriftCards.BAD, -2);
        due("STATE", DriftCards.STATE, -3);
        due("FULL", DriftCards.FULL, -4);
        holds("as it is written", source.contains("public static final int NONE = -1, BAD = -2, STATE = -3, FULL = -4;"));
        int shown = 0;
        for (Field f : DriftCards.class.getDeclaredFields()) {
            if (Modifier.isPrivate(f.getModifiers())) continue;
            shown++;
            holds(f + " is one of them", List.of("NONE", "BAD", "STATE", "FULL").contains(f.getName()) && f.getType() == int.class);
            holds(f + " is public and never changes", Modifier.isPublic(f.getModifiers()) && Modifier.isStatic(f.getModifiers())
                && Modifier.isFinal(f.getModifiers()));
        }
        due("no other field is to be seen", shown, 4);
    }

    private static void constructor() {
        says("public DriftCards();");
        Constructor<?>[] all = DriftCards.class.getDeclaredConstructors();
        due("just one", all.length, 1);
        for (Constructor<?> c : all) {
            due("its arguments", c.getParameterCount(), 0);
            holds("it is public", Modifier.isPublic(c.getModifiers()));
            due("what it throws", c.getExceptionTypes().length, 0);
        }
    }

    private static void calls() {
        says("public int paint(int x0, int x1, int y, int what, int v);");
        Set<String> told = new TreeSet<>();
        for (String[] group : CALLS) {
            for (String line : group) {
                says(line + ";");
                told.add(line.replaceAll(" \\w+(?=[,)])", "").replace(", ", ","));
            }
        }
        due("so many", told.size(), 33);
        Set<String> seen = new TreeSet<>();
        for (Method m : DriftCards.class.getDeclaredMethods()) {
            if (Modifier.isPrivate(m.getModifiers())) continue;
            StringBuilder b = new StringBuilder();
            for (Class<?> p : m.getParameterTypes()) b.append(b.length() == 0 ? "" : ",").append(p);
            String how = Modifier.isStatic(m.getModifiers()) ? "static " : "";
            seen.add(Modifier.isPublic(m.getModifiers()) ? how + "public " + m.getReturnType() + " " + m.getName() + "(" + b + ")" : "seen: " + m);
            due(m.getName() + " says that it throws", m.getExceptionTypes().length, 0);
        }
        for (String line : told) holds("there is " + line, seen.contains(line));
        for (String line : seen) holds("the document tells " + line, told.contains(line));
    }

    /** The lines of a group stand in the source between what is said ahead of it and of the next, in the document's order. */
    private static void standTogether(String source, String[] lines, String ahead, String next) {
        int at = source.indexOf("// " + ahead);
        int end = next.startsWith("----") ? source.indexOf("// " + next) : source.indexOf(next);
        holds(ahead + " is said, ahead of " + next, at >= 0 && at < end);
        for (String line : lines) {
            int found = source.indexOf("    " + line + " {\n");
            holds(line + " stands there", found > at && found < end);
            at = found;
        }
    }
}
