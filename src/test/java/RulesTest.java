import java.io.IOException;
import java.lang.reflect.Constructor;
import java.lang.reflect.Field;
import java.lang.reflect.Method;
import java.lang.reflect.Modifier;
import java.nio.file.Files;
import java.nio.file.Path;
import java.util.ArrayList;
import java.util.List;
import java.util.Set;
import java.util.TreeSet;
import java.util.regex.Matcher;
import java.util.regex.Pattern;

/** What can be seen of the rules of LANGUAGE.md from outside: members, and words that may not stand in the source. */
public final class RulesTest {
    private static final Path SOURCE = Path.of("src/main/java/DriftCards.java");
    private static final String[] NOT_THERE = {
        "throw", "throws", "try", "catch", "finally", "synchronized", "assert", "->", "::", "Exact\\b", "new \\w+\\(\\) \\{",
        "Map", "Set", "Optional", "Stream", "System\\.(?!arraycopy)", "Random", "Thread", "package ", "instanceof", "protected"};
    private static final Set<String> LIBRARY = Set.of("Math.max", "Math.min", "Math.abs", "Integer.signum", "Arrays.fill",
        "System.arraycopy");
    private static final int MOST_LINES = 60;
    private static final List<String> WRONG = new ArrayList<>();

    public static void main(String[] args) throws IOException {
        members();
        source(Files.readString(SOURCE));
        WRONG.forEach(System.out::println);
        System.out.println(WRONG.isEmpty() ? "all rules are kept to that can be seen here" : WRONG.size() + " faults");
        if (!WRONG.isEmpty()) System.exit(1);
    }

    private static void check(boolean holds, String what) {
        if (!holds) WRONG.add(what);
    }

    private static void members() {
        Set<String> names = new TreeSet<>();
        for (Method m : DriftCards.class.getDeclaredMethods()) {
            if (Modifier.isPublic(m.getModifiers())) names.add(m.getName());
            check(Modifier.isPublic(m.getModifiers()) || Modifier.isPrivate(m.getModifiers()), "rule 1, neither public nor private: " + m);
        }
        for (Method m : DriftCards.class.getDeclaredMethods()) {
            check(Modifier.isPublic(m.getModifiers()) || !names.contains(m.getName()), "rule 1, a name of the face: " + m);
        }
        for (Field f : DriftCards.class.getDeclaredFields()) {
            check(!Modifier.isStatic(f.getModifiers()) || Modifier.isFinal(f.getModifiers()), "rule 5, static, not final: " + f);
        }
        check(DriftCards.class.getDeclaredClasses().length < 12, "rule 11, classes");
        check(fieldsOf(DriftCards.class) <= 20, "rule 11, fields");
        for (Class<?> inside : DriftCards.class.getDeclaredClasses()) {
            check(Modifier.isStatic(inside.getModifiers()), "rule 1, not static: " + inside);
            check(!Modifier.isPublic(inside.getModifiers()) && !Modifier.isProtected(inside.getModifiers()), "rule 1, to be seen: " + inside);
            check(fieldsOf(inside) <= 20, "rule 11, fields of " + inside);
            for (Method m : inside.getDeclaredMethods()) check(!names.contains(m.getName()), "rule 1, a name of the face: " + m);
            for (Method m : inside.getDeclaredMethods()) check(m.getParameterCount() <= 7, "rule 11, parameters: " + m);
            for (Constructor<?> c : inside.getDeclaredConstructors()) check(c.getParameterCount() <= 7, "rule 11, parameters: " + c);
        }
    }

    private static int fieldsOf(Class<?> of) {
        int sum = 0;
        for (Field f : of.getDeclaredFields()) {
            if (!Modifier.isStatic(f.getModifiers())) sum++;
        }
        return sum;
    }

    private static void source(String text) {
        String code = text.replaceAll("(?s)/\\*.*?\\*/", "").replaceAll("//[^\n]*", "");
        for (String word : NOT_THERE) {
            String edge = word.matches("[A-Za-z]+") ? "\\b" + word + "\\b" : word;
            check(!Pattern.compile(edge).matcher(code).find(), "in the source: " + word);
        }
        check(code.lines().filter(l -> l.startsWith("import")).allMatch(l -> l.equals("import java.util.Arrays;")), "imports");
        check(text.chars().allMatch(c -> c < 128), "signs above 127");
        Matcher used = Pattern.compile("\\b(Math|Integer|Long|Arrays|System|String|Character)\\.\\w+").matcher(code);
        while (used.find()) check(LIBRARY.contains(used.group()), "rule 4, the library: " + used.group());
        methodsAreShort(text.lines().toList());
    }

    /** A method begins with a line that opens a brace behind its arguments, and ends where that line's indent closes it. */
    private static void methodsAreShort(List<String> lines) {
        for (int i = 0; i < lines.size(); i++) {
            if (!lines.get(i).matches(" {4,8}(?!if|for|while|switch)\\w[^=]*\\) \\{")) continue;
            String close = lines.get(i).replaceAll("\\S.*", "") + "}";
            int end = i;
            while (end < lines.size() && !lines.get(end).equals(close)) end++;
            check(end - i < MOST_LINES, "rule 11, a long method: " + lines.get(i).trim());
        }
    }
}
