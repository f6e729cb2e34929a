import java.io.IOException;
import java.nio.file.Files;
import java.nio.file.Path;

/** What the tests of boundaries share: each test bears the sentence of the document that names the boundary. */
abstract class Bounds {
    static final int NONE = -1, BAD = -2, STATE = -3, FULL = -4;
    static final int LOW = Integer.MIN_VALUE, HIGH = Integer.MAX_VALUE;
    static final int ALL = 1000000;
    private static final Path DOCUMENT = Path.of("../shared/DOC.md");
    private static String document = null;
    private static String sentence = "";
    private static int sentences = 0;
    private static int asked = 0;
    private static int wrong = 0;

    /** The sentence under test, word for word; one that the document does not say (any more) is told, but is no fault. */
    static void says(String words) {
        sentences++;
        sentence = words;
        if (document == null) document = readDocument();
        if (!document.isEmpty() && !document.contains(words)) {
            System.out.println("look again, the document does not say: " + words);
        }
    }

    private static String readDocument() {
        try {
            return Files.exists(DOCUMENT) ? Files.readString(DOCUMENT) : "";
        } catch (IOException e) {
            return "";
        }
    }

    static void due(String what, long got, long want) {
        asked++;
        if (got != want) {
            wrong++;
            System.out.println("'" + sentence + "': " + what + ": answered " + got + ", due is " + want);
        }
    }

    static void end() {
        System.out.println(sentences + " sentences, " + asked + " answers, " + wrong + " not as due");
        if (wrong != 0) System.exit(1);
    }

    static int place(int cx, int cy) {
        return 6 * cx + cy;
    }

    static void feedText(Counted x, String text) {
        for (int at = 0; at < text.length(); at += 8) {
            int n = Math.min(8, text.length() - at);
            long w = 0;
            for (int i = 0; i < n; i++) w = w << 8 | text.charAt(at + i);
            x.feed(w, n);
        }
    }

    static int prizeOf(Counted x, String text) {
        feedText(x, text);
        return x.prize();
    }

    /** The same current in region 0 all the year. */
    static void currentAllYear(Counted x, int east, int north) {
        for (int month = 0; month < 12; month++) x.current(0, month, east, north);
    }

    static void shore(Counted x, int cx, int cy, int walked, int sand) {
        x.paint(cx, cx, cy, 0, 1);
        x.paint(cx, cx, cy, 3, walked);
        x.paint(cx, cx, cy, 2, sand);
    }

    /**
     * For eight months a quarter of each cell of row 0 goes a step east: of a cast at (0, 0) in month 0 there are 61 parts
     * in (7, 0) behind seven months, and 15 come to (8, 0), a shore, in the eighth. Nothing goes on behind that.
     */
    static Counted fifteenAshore(int walked, int sand) {
        Counted x = new Counted();
        for (int month = 0; month < 8; month++) x.current(0, month, 34, 33);
        shore(x, 8, 0, walked, sand);
        return x;
    }
}
