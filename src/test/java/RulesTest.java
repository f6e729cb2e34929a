import java.io.IOException;
import java.lang.reflect.Constructor;
import java.lang.reflect.Field;
import java.lang.reflect.Method;
import java.lang.reflect.Modifier;
import java.nio.file.Files;
import java.nio.file.Path;
import java.util.ArrayList;
import java.util.List;
import java.util.Set;
import java.util.TreeSet;
import java.util.regex.Pattern;

/** What can be seen of the rules of LANGUAGE.md from outside: the face, and words that may not stand in the source. */
public final class RulesTest {
    private static final Path SOURCE = Path.of("src/main/java/DriftCards.java");
    private static final String[] FACE = {
        "int paint(int,int,int,int,int)", "int cell(int,int,int)", "int current(int,int,int,int)", "int wind(int,int,int)",
        "int storm(int,int,int)", "int calm(int)", "int cast(int,int,int,int,int,int)", "int about(int,int)",
        "int parts(int,int,int)", "int partsAt(int,int,int,int,int)", "int apart(int,int)", "int name(int,int,int)",
        "int find(int,int,int,int,int)", "int clock(int)", "int drop(int,int)", "int weight(int,int)", "int judge(int)",
        "int best(int)", "int cards(int)", "int twin(int)", "int got(int,int,int)", "int move(int,int)", "int fit(int)",
        "long misfit()", "long misses()", "int doubt(int)", "int tells(int,int,int,int)", "int feed(long,int)", "int prize()",
        "int pays(int)", "int purse(int)", "int letters(int,int)", "int count(int)"};
    private static final String[] NOT_THERE = {
        "throw", "throws", "try", "catch", "finally", "synchronized", "assert", "->", "::", "Exact\\b", "new \\w+\\(\\) \\{",
        "Map", "Set", "Optional", "Stream", "System\\.(?!arraycopy)", "Random", "Thread", "package ", "instanceof", "protected"};
    private static final List<String> WRONG = new ArrayList<>();

    public static void main(String[] args) throws IOException {
        face();
        source(Files.readString(SOURCE));
        WRONG.forEach(System.out::println);
        System.out.println(WRONG.isEmpty() ? "all rules are kept to that can be seen here" : WRONG.size() + " faults");
        if (!WRONG.isEmpty()) System.exit(1);
    }

    private static void check(boolean holds, String what) {
        if (!holds) WRONG.add(what);
    }

    private static void face() {
        check(Modifier.isPublic(DriftCards.class.getModifiers()) && Modifier.isFinal(DriftCards.class.getModifiers()), "public and final");
        Set<String> seen = new TreeSet<>();
        Set<String> names = new TreeSet<>();
        for (Method m : DriftCards.class.getDeclaredMethods()) {
            if (Modifier.isPublic(m.getModifiers())) {
                StringBuilder b = new StringBuilder();
                for (Class<?> p : m.getParameterTypes()) b.append(b.length() == 0 ? "" : ",").append(p);
                seen.add(m.getReturnType() + " " + m.getName() + "(" + b + ")");
                names.add(m.getName());
            } else {
                check(Modifier.isPrivate(m.getModifiers()), "not private: " + m);
            }
        }
        check(seen.equals(new TreeSet<>(List.of(FACE))), "the face: " + seen);
        for (Field f : DriftCards.class.getDeclaredFields()) {
            boolean told = List.of("NONE", "BAD", "STATE", "FULL").contains(f.getName());
            check(told ? Modifier.isPublic(f.getModifiers()) : Modifier.isPrivate(f.getModifiers()), "field " + f);
            check(!Modifier.isStatic(f.getModifiers()) || Modifier.isFinal(f.getModifiers()), "static, not final: " + f);
        }
        for (Constructor<?> c : DriftCards.class.getDeclaredConstructors()) {
            check(c.getParameterCount() == 0, "constructor " + c);
        }
        check(DriftCards.class.getDeclaredClasses().length < 12, "classes");
        for (Class<?> inside : DriftCards.class.getDeclaredClasses()) {
            check(Modifier.isStatic(inside.getModifiers()), "not static: " + inside);
            for (Method m : inside.getDeclaredMethods()) check(!names.contains(m.getName()), "a name of the face: " + m);
            for (Method m : inside.getDeclaredMethods()) check(m.getParameterCount() <= 7, "parameters: " + m);
        }
    }

    private static void source(String text) {
        String code = text.replaceAll("(?s)/\\*.*?\\*/", "").replaceAll("//[^\n]*", "");
        for (String word : NOT_THERE) {
            String edge = word.matches("[A-Za-z]+") ? "\\b" + word + "\\b" : word;
            check(!Pattern.compile(edge).matcher(code).find(), "in the source: " + word);
        }
        check(code.lines().filter(l -> l.startsWith("import")).allMatch(l -> l.equals("import java.util.Arrays;")), "imports");
        check(text.chars().allMatch(c -> c < 128), "signs above 127");
    }
}
