import java.io.IOException;
import java.nio.file.Files;
import java.nio.file.Path;
import java.util.ArrayList;
import java.util.List;

/** README.md's example: its lines are the ones called here, and what it says behind // is what they answer. */
public final class ReadmeTest {
    private static final Path README = Path.of("README.md");
    private static final List<String> LINES = new ArrayList<>();
    private static int at = 0;
    private static int wrong = 0;

    public static void main(String[] args) throws IOException {
        readExample(Files.readString(README));
        DriftCards x = new DriftCards();
        line("DriftCards x = new DriftCards();", null);
        line("x.paint(9, 9, 2, 0, 1);", x.paint(9, 9, 2, 0, 1));
        line("x.paint(9, 9, 2, 3, 16);", x.paint(9, 9, 2, 3, 16));
        line("x.current(0, 0, 44, 33);", x.current(0, 0, 44, 33));
        int c = x.cast(0, 1200, 100, 0, 6 * 8 + 2, 0);
        line("int c = x.cast(0, 1200, 100, 0, 6 * 8 + 2, 0);", c);
        line("x.parts(c, 1, 2);", x.parts(c, 1, 2));
        int n = x.name(909, 202, 4);
        line("int n = x.name(909, 202, 4);", n);
        line("x.clock(10);", x.clock(10));
        int f = x.find(0x12A4, 0, n, 0, 3);
        line("int f = x.find(0x12A4, 0, n, 0, 3);", f);
        line("x.judge(f);", x.judge(f));
        line("x.best(f);", x.best(f));
        line("x.cards(f);", x.cards(f));
        line("x.got(c, n, 9);", x.got(c, n, 9));
        line("x.got(c, n, 10);", x.got(c, n, 10));
        line("x.fit(0);", x.fit(0));
        line("x.feed(0x7072697A65203530L, 8);", x.feed(0x7072697A65203530L, 8));
        line("x.prize();", x.prize());
        line("x.pays(f);", x.pays(f));
        if (at != LINES.size()) tell("README.md's example has " + LINES.size() + " lines, the test " + at);
        System.out.println(at + " lines, " + wrong + " not as README.md says");
        if (wrong != 0) System.exit(1);
    }

    private static void tell(String what) {
        wrong++;
        System.out.println(what);
    }

    private static void readExample(String text) {
        int from = text.indexOf("```java\n");
        int to = text.indexOf("```", from + 7);
        if (from >= 0 && to >= 0) text.substring(from + 8, to).lines().forEach(LINES::add);
    }

    /** The next line of the example is this code, and behind // there stands its answer first. */
    private static void line(String code, Integer answer) {
        String said = at < LINES.size() ? LINES.get(at) : "";
        at++;
        String[] halves = said.split("//", 2);
        if (!halves[0].strip().equals(code)) tell("line " + at + " of the example is not " + code + ": " + said);
        String number = halves.length < 2 ? null : halves[1].strip().split(":")[0];
        if (answer == null ? number != null : !answer.toString().equals(number)) tell("line " + at + ": " + said + " answers " + answer);
    }
}
