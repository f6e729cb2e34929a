import java.io.IOException;
import java.nio.file.Files;
import java.nio.file.Path;
import java.util.ArrayList;
import java.util.List;
import java.util.regex.Matcher;
import java.util.regex.Pattern;
import java.util.stream.Stream;

/**
 * Every word of the document stands in a sentence that some test quotes with says(), but for headings and for words that
 * promise nothing: a sentence that comes to the document without a test shows here.
 */
public final class DocumentTest {
    private static final Path DOCUMENT = Path.of("../shared/DOC.md");
    private static final Path TESTS = Path.of("src/test/java");
    private static final Pattern QUOTE = Pattern.compile("says\\(((?:\\s*\"(?:[^\"\\\\]|\\\\.)*\"\\s*\\+?)+)\\s*\\)");
    private static final Pattern LITERAL = Pattern.compile("\"((?:[^\"\\\\]|\\\\.)*)\"");
    /** What FaceTest holds against the class line by line, headings, and each promise's line of the face. */
    private static final String[] NOT_IN_SENTENCES = {"(?s)```java.*?```", "```text", "```", "(?m)^#.*$", "(?m)^`[^`]*`: ",
        "======== \\d ", "======== 1 THE SEA:", "THE SEA:"};
    private static final String[] PROMISE_NOTHING = {
        ", as are the speed of each call, the text of toString and the behaviour of equals and hashCode.",
        "Use of one object from several threads at once is not promised to be safe.",
        "Nothing is promised beyond the answers and state changes described above, and nothing about an object after its 512th call."};

    public static void main(String[] args) throws IOException {
        if (!Files.exists(DOCUMENT)) {
            System.out.println("there is no document to look at");
            return;
        }
        String document = Files.readString(DOCUMENT);
        boolean[] told = new boolean[document.length()];
        for (String pattern : NOT_IN_SENTENCES) markAll(Pattern.compile(pattern), document, told);
        for (String words : PROMISE_NOTHING) markAll(Pattern.compile(Pattern.quote(words)), document, told);
        List<String> quotes = quotes();
        for (String words : quotes) markAll(Pattern.compile(Pattern.quote(words)), document, told);
        int missing = tellMissing(document, told);
        System.out.println(quotes.size() + " quotes, " + missing + " passages of the document without a test");
        if (missing != 0) System.exit(1);
    }

    private static List<String> quotes() throws IOException {
        List<String> all = new ArrayList<>();
        try (Stream<Path> files = Files.list(TESTS)) {
            for (Path file : files.filter(p -> p.toString().endsWith(".java")).sorted().toList()) {
                Matcher quote = QUOTE.matcher(Files.readString(file));
                while (quote.find()) {
                    StringBuilder words = new StringBuilder();
                    Matcher literal = LITERAL.matcher(quote.group(1));
                    while (literal.find()) words.append(literal.group(1));
                    all.add(words.toString());
                }
            }
        }
        return all;
    }

    private static void markAll(Pattern pattern, String document, boolean[] told) {
        Matcher m = pattern.matcher(document);
        for (int from = 0; from < document.length() && m.find(from); from = m.start() + 1) {
            for (int i = m.start(); i < m.end(); i++) told[i] = true;
        }
    }

    private static int tellMissing(String document, boolean[] told) {
        int missing = 0;
        StringBuilder passage = new StringBuilder();
        for (int i = 0; i <= document.length(); i++) {
            if (i < document.length() && !told[i]) {
                passage.append(document.charAt(i));
                continue;
            }
            String words = passage.toString().strip();
            passage.setLength(0);
            if (words.matches("(?s).*\\w.*")) {
                missing++;
                System.out.println("no test quotes: " + words);
            }
        }
        return missing;
    }
}
