/** The boundaries of part 5 of the document, PRIZES and THE TAPE, and of promises 29 to 34. */
public final class PrizeBoundsTest extends Bounds {
    private static final String LONGEST = "prize 9999 if !months=9999&!tongue<9999&!weight>9999";
    private static final String[] FIELDS = {"months", "far", "kind", "tongue", "weight"};

    public static void main(String[] args) {
        feedBytes();
        feedOrder();
        tapeIsFull();
        eightPrizes();
        fullAheadOfFault();
        tapeIsEmptyThen();
        faultAtEachPlace();
        endsTooEarly();
        everyByte();
        digitsOfNumbers();
        tests();
        noOtherBlanks();
        faultsLeaveNothing();
        paysWhom();
        monthsField();
        farField();
        kindAndTongueFields();
        weightField();
        signs();
        allPrizes();
        purse();
        letters();
        count();
        calls();
        end();
    }

    private static void feedBytes() {
        says("BAD: n not 1 .. 8; FULL.");
        Counted x = new Counted();
        int[] not = {0, 9, -1, LOW, HIGH, 256 + 1};
        for (int n : not) due("n " + n, x.feed(0x7072697A6520316CL, n), BAD);
        due("nothing came", x.count(5), 0);
        due("one", x.feed(0, 1), 1);
        due("eight", x.feed(0, 8), 9);
        for (int n = 1; n <= 8; n++) due("n " + n, x.feed(-1L, n), 9 + n * (n + 1) / 2);
    }

    private static void feedOrder() {
        says("The n lowest bytes of w, the highest first, come behind THE TAPE's: how many it has.");
        String text = "prize 12";
        long w = 0;
        for (int i = 0; i < 8; i++) w = w << 8 | text.charAt(i);
        for (int n = 1; n <= 8; n++) {
            Counted x = new Counted();
            feedText(x, text.substring(0, 8 - n));
            due(n + " lowest bytes", x.feed(w, n), 8);
            due(n + " lowest bytes read", x.prize(), 0);
        }
        Counted high = new Counted();
        due("a byte above 127 ahead of all", high.feed(0xFF72697A65203132L, 8), 8);
        due("is a fault", high.prize(), -10);
        high.feed(w, 8);
        high.feed(0xFFFFFFFFFFFFFF39L, 1);
        due("higher bytes do not count", high.prize(), 0);
        high.feed(w, 8);
        high.feed(0x139L, 1);
        due("nor does the next bit", high.prize(), 1);
        high.feed(w, 8);
        high.feed(0xB9L, 1);
        due("a digit with the high bit is none", high.prize(), -18);
        high.feed(w, 8);
        high.feed(0, 1);
        due("a byte 0 is one", high.prize(), -18);
    }

    private static void tapeIsFull() {
        says("A PRIZE is read from THE TAPE (bytes, 120 at most)");
        for (int n = 1; n <= 8; n++) {
            Counted x = new Counted();
            for (int i = 0; i < 14; i++) x.feed(0, 8);
            if (n < 8) x.feed(0, 8 - n);
            due("up to 120 by " + n, x.feed(0, n), 120);
            for (int m = 1; m <= 8; m++) due("then no more, not even " + m, x.feed(0, m), FULL);
            due("it stays", x.count(5), 120);
            Counted over = new Counted();
            for (int i = 0; i < 14; i++) over.feed(0, 8);
            over.feed(0, 8 - n + 1);
            due("one too many by " + n, over.feed(0, n), FULL);
            due("none of them came", over.count(5), 121 - n);
            if (n > 1) due("one less comes", over.feed(0, n - 1), 120);
        }
        Counted x = new Counted();
        feedText(x, LONGEST);
        int size = LONGEST.length();
        for (int i = size; i < 120; i++) x.feed('9', 1);
        due("a fault within a full tape", x.prize(), -10 - size);
        due("it is empty then", x.count(5), 0);
        due("and takes more", x.feed(0, 8), 8);
    }

    private static void eightPrizes() {
        says("PRIZES are numbered from 0 on, 8 at most.");
        Counted x = new Counted();
        for (int p = 0; p < 8; p++) {
            due("so many", x.count(3), p);
            due("prize " + p, prizeOf(x, "prize 1"), p);
            if (p < 7) due("a fault is no prize", prizeOf(x, "prize"), -15);
        }
        due("a ninth", prizeOf(x, "prize 1"), FULL);
        due("eight", x.count(3), 8);
        due("again", x.prize(), FULL);
    }

    private static void fullAheadOfFault() {
        says("FULL (ahead of the FAULT; THE TAPE stays).");
        String[] texts = {"", "prize 1", "rubbish", LONGEST};
        for (String text : texts) {
            Counted x = new Counted();
            for (int p = 0; p < 8; p++) prizeOf(x, "prize 1");
            due("'" + text + "'", prizeOf(x, text), FULL);
            due("the tape stays", x.count(5), text.length());
            due("the tape goes on", x.feed(' ', 1), text.length() + 1);
        }
    }

    private static void tapeIsEmptyThen() {
        says("THE TAPE, which is empty then, is a PRIZE: its number; -10 less the FAULT (THE TAPE is empty then, too).");
        Counted x = new Counted();
        due("an empty tape is none: it ends at 0", x.prize(), -10);
        due("a prize", prizeOf(x, "prize 1"), 0);
        due("empty then", x.count(5), 0);
        due("nothing is left of it", x.prize(), -10);
        due("a fault", prizeOf(x, "prize 1x"), -17);
        due("empty then, too", x.count(5), 0);
        due("nothing is left of it", prizeOf(x, "prize 2"), 1);
        due("a fault at 0", prizeOf(x, "x"), -10);
        due("nothing is left of it", prizeOf(x, "prize 3"), 2);
        for (int end = 0; end < LONGEST.length(); end++) {
            Counted longer = new Counted();
            String part = LONGEST.substring(0, end);
            boolean whole = isWhole(part);
            prizeOf(longer, LONGEST);
            due("'" + part + "' behind all of it", prizeOf(longer, part), whole ? 1 : -10 - end);
        }
        Counted y = paying();
        prizeOf(y, "prize 1234");
        String[] shorter = {"prize 1", "prize 12", "prize 123"};
        int[] sums = {1235, 1247, 1370};
        for (int i = 0; i < 3; i++) {
            prizeOf(y, shorter[i]);
            due("'" + shorter[i] + "' behind a longer one", y.pays(0), sums[i]);
        }
    }

    /** A byte that no prize has, at each place: that is the fault. */
    private static void faultAtEachPlace() {
        says("The FAULT is the place of the first byte with which none begins so");
        for (int at = 0; at <= LONGEST.length(); at++) {
            Counted x = new Counted();
            String rest = at < LONGEST.length() ? LONGEST.substring(at + 1) : "";
            due("a strange byte at " + at, prizeOf(x, LONGEST.substring(0, at) + "#" + rest), -10 - at);
            due("two of them, the first at " + at, prizeOf(x, LONGEST.substring(0, at) + "##"), -10 - at);
        }
        due("the whole", prizeOf(new Counted(), LONGEST), 0);
    }

    private static void endsTooEarly() {
        says("(the end of THE TAPE, if it ends too early)");
        String[] texts = {LONGEST, "prize 1 if far=1&kind>2&far<3"};
        for (String text : texts) {
            for (int end = 0; end < text.length(); end++) {
                Counted x = new Counted();
                String part = text.substring(0, end);
                boolean whole = isWhole(part);
                due("'" + part + "'", prizeOf(x, part), whole ? 0 : -10 - end);
            }
        }
    }

    private static boolean isWhole(String beginning) {
        return beginning.matches("prize [0-9]+|.*[=<>][0-9]+");
    }

    /** Which bytes may follow, of all 256; a text that is no prize with one that may ends too early behind it. */
    private static void everyByte() {
        says("prize, a blank, N (1 to 4 digits), and perhaps: a blank, if, a blank, TEST, or TEST&TEST, or three. "
            + "TEST: perhaps !, FIELD (months far kind tongue weight), one of = < >, N.");
        String digits = "0123456789";
        follow("", "p", "");
        follow("p", "r", "");
        follow("pr", "i", "");
        follow("pri", "z", "");
        follow("priz", "e", "");
        follow("prize", " ", "");
        follow("prize ", "", digits);
        follow("prize 1", " ", digits);
        follow("prize 12", " ", digits);
        follow("prize 123", " ", digits);
        follow("prize 1234", " ", "");
        follow("prize 1 ", "i", "");
        follow("prize 1 i", "f", "");
        follow("prize 1 if", " ", "");
        follow("prize 1 if ", "!mfktw", "");
        follow("prize 1 if !", "mfktw", "");
        for (String field : FIELDS) {
            for (int i = 1; i < field.length(); i++) {
                follow("prize 1 if " + field.substring(0, i), field.substring(i, i + 1), "");
            }
            follow("prize 1 if " + field, "=<>", "");
            follow("prize 1 if !" + field, "=<>", "");
        }
        for (char sign : "=<>".toCharArray()) {
            follow("prize 1 if far" + sign, "", digits);
            follow("prize 1 if far" + sign + "1", "&", digits);
            follow("prize 1 if far" + sign + "123", "&", digits);
            follow("prize 1 if far" + sign + "1234", "&", "");
        }
        follow("prize 1 if far=1&", "!mfktw", "");
        follow("prize 1 if far=1&far=2", "&", digits);
        follow("prize 1 if far=1&far=2&", "!mfktw", "");
        follow("prize 1 if far=1&far=2&!", "mfktw", "");
        follow("prize 1 if far=1&far=2&far=3", "", digits);
        follow("prize 1 if far=1&far=2&far=333", "", digits);
        follow("prize 1 if far=1&far=2&far=3333", "", "");
    }

    /** Behind a text the bytes of one row may follow, but are not the end of a prize; those of another row are. */
    private static void follow(String text, String open, String closed) {
        for (int b = 0; b < 256; b++) {
            Counted x = new Counted();
            int want = -10 - text.length();
            if (open.indexOf(b) >= 0) want--;
            if (closed.indexOf(b) >= 0) want = 0;
            due("'" + text + "' and byte " + b, prizeOf(x, text + (char) b), want);
        }
    }

    private static void digitsOfNumbers() {
        says("N (1 to 4 digits)");
        String[] numbers = {"", "0", "9", "10", "999", "1000", "9999", "0000", "0001", "10000", "00000", "99999"};
        int[] worth = {0, 0, 9, 10, 999, 1000, 9999, 0, 1, 0, 0, 0};
        for (int i = 0; i < numbers.length; i++) {
            Counted x = paying();
            boolean good = numbers[i].length() >= 1 && numbers[i].length() <= 4;
            int fault = Math.min(4, numbers[i].length());
            due("'prize " + numbers[i] + "'", prizeOf(x, "prize " + numbers[i]), good ? 0 : -16 - fault);
            due("what it pays", x.pays(0), worth[i]);
            Counted y = paying();
            due("'far<" + numbers[i] + "'", prizeOf(y, "prize 1 if !far<" + numbers[i]), good ? 0 : -26 - fault);
            due("far is 1, not below " + numbers[i], y.pays(0), good && worth[i] <= 1 ? 1 : 0);
        }
    }

    private static void tests() {
        says("TEST, or TEST&TEST, or three");
        String one = "far=1";
        due("none", prizeOf(new Counted(), "prize 1"), 0);
        due("if, and none", prizeOf(new Counted(), "prize 1 if "), -21);
        String text = "prize 1 if " + one;
        for (int many = 1; many <= 4; many++) {
            due(many + " tests", prizeOf(new Counted(), text), many <= 3 ? 0 : -10 - (text.length() - 6));
            text = text + "&" + one;
        }
        String[] holding = {"far=1", "far=1&far=1", "far=1&far=1&far=1"};
        for (String tests : holding) due(tests, payFor(tests), 7);
        String[] failing = {"far=2", "far=2&far=1", "far=1&far=2", "far=2&far=1&far=1", "far=1&far=2&far=1", "far=1&far=1&far=2"};
        for (String tests : failing) due(tests, payFor(tests), 0);
        says("A FIND PAYS all PRIZES whose TESTS hold (with !: do not)");
        String[] notHolding = {"!far=2", "far=1&!far=2", "far=1&far=1&!far=2", "!far=2&!far=2&!far=2"};
        for (String tests : notHolding) due(tests, payFor(tests), 7);
        String[] notFailing = {"!far=1", "far=1&!far=1", "far=1&far=1&!far=1", "!far=2&!far=2&!far=1"};
        for (String tests : notFailing) due(tests, payFor(tests), 0);
    }

    private static void noOtherBlanks() {
        says("No other blanks.");
        String text = "prize 1 if far=1&kind=2";
        for (int at = 0; at <= text.length(); at++) {
            int fault = at;
            if (text.startsWith(" ", at)) fault = at + 1;
            due("a blank more at " + at, prizeOf(new Counted(), text.substring(0, at) + " " + text.substring(at)), -10 - fault);
        }
        due("a blank behind all", prizeOf(new Counted(), "prize 1 "), -18);
    }

    private static void faultsLeaveNothing() {
        says("-10 less the FAULT (THE TAPE is empty then, too)");
        Counted x = paying();
        due("a fault behind three tests that fail", prizeOf(x, "prize 5 if far=9&far=9&far=9&"), -38);
        due("a prize behind it", prizeOf(x, "prize 7"), 0);
        due("it has no tests", x.pays(0), 7);
        due("a fault behind two tests that fail", prizeOf(x, "prize 5 if far=9&!far=1&"), -34);
        due("a prize with a test behind it", prizeOf(x, "prize 20 if far=1"), 1);
        due("it has one", x.pays(0), 27);
        due("a fault with a !", prizeOf(x, "prize 5 if !far=1x"), -27);
        due("a prize without", prizeOf(x, "prize 300 if far=1"), 2);
        due("it holds", x.pays(0), 327);
    }

    /** Find 0: a bottle cast in month 3 at (8, 2), found in month 3 on at (9, 2), half of it; the name's tongue is 4. */
    private static Counted paying() {
        Counted x = new Counted();
        shore(x, 9, 2, 8, 0);
        currentAllYear(x, 44, 33);
        x.cast(1, 0, 100, 3, place(8, 2), 0);
        x.name(909, 202, 4);
        x.find(0, 0, 0, 3, 3);
        return x;
    }

    private static int payFor(String tests) {
        Counted x = paying();
        prizeOf(x, "prize 7 if " + tests);
        return x.pays(0);
    }

    private static void paysWhom() {
        says("if it is not OUT, has no TWIN, and has a BEST");
        Counted x = paying();
        due("no prizes", x.pays(0), 0);
        prizeOf(x, "prize 7");
        due("the one", x.pays(0), 7);
        x.find(0, 0, 0, 3, 3);
        due("a twin", x.pays(1), 0);
        due("who has one", x.pays(0), 7);
        x.drop(0, 1);
        due("out", x.pays(0), 0);
        due("its twin then", x.pays(1), 7);
        x.find(1, 0, 0, 2, 2);
        due("no best: a month ahead", x.pays(2), 0);
        x.find(0x9999, 0, 0, 3, 3);
        due("no best: none fits", x.pays(3), 0);
        x.find(0xAAAA, 0, 0, 3, 3);
        x.cast(1, 200, 100, 3, place(8, 2), 0);
        due("a best is enough, it need not be sure", x.judge(4) * 10 + x.pays(4), 17);
        says("What a FIND PAYS (0: nothing). NONE.");
        int[] not = {-1, 5, 16, LOW, HIGH};
        for (int f : not) due("find " + f, x.pays(f), NONE);
        due("no finds", new Counted().pays(0), NONE);
    }

    private static void monthsField() {
        says("months: from less the CAST's month (0 at least)");
        int[] from = {0, 2, 3, 4, 14};
        int[] months = {0, 0, 0, 1, 11};
        for (int i = 0; i < 5; i++) {
            for (int n = 0; n <= 12; n++) {
                Counted x = paying();
                x.find(1, 0, 0, from[i], 60);
                prizeOf(x, "prize 7 if months=" + n);
                due("from " + from[i] + ", months=" + n, x.pays(1), n == months[i] ? 7 : 0);
            }
            Counted x = paying();
            x.find(1, 0, 0, from[i], 60);
            prizeOf(x, "prize 7 if months<1");
            due("from " + from[i] + ", months<1", x.pays(1), months[i] == 0 ? 7 : 0);
        }
        Counted last = paying();
        last.find(1, 0, 0, 15, 60);
        due("a year behind there is no best", last.best(1), NONE);
    }

    /** From (4, 2) to rectangles on all sides; the last cell of each is the shore where all is found. */
    private static void farField() {
        says("far: steps east and north between the CAST's CELL and the rectangle");
        int[][] names = {{305, 103, 0}, {9, 5, 0}, {405, 202, 0}, {404, 203, 0}, {505, 202, 1}, {303, 202, 1}, {404, 303, 1},
            {404, 101, 1}, {505, 303, 2}, {303, 101, 2}, {505, 101, 2}, {303, 303, 2}, {609, 202, 2}, {2, 202, 2}, {404, 405, 2},
            {404, 0, 2}, {909, 505, 8}, {0, 0, 6}, {909, 0, 7}, {0, 505, 7}, {809, 405, 6}};
        for (int[] n : names) {
            Counted x = new Counted();
            int east = n[0] % 100 - 4;
            int north = n[1] % 100 - 2;
            int atOnce = Math.max(-3, Math.min(3, east));
            shore(x, 4 + east, 2 + north, 16, 0);
            x.wind(0, atOnce, 0);
            x.wind(1, east - atOnce, 0);
            x.wind(2, 0, north);
            x.cast(1, 0, 1, 0, place(4, 2), 0);
            x.name(n[0], n[1], 0);
            x.find(0, 0, 0, 0, 60);
            prizeOf(x, "prize 7 if far=" + n[2]);
            due("it lands in x " + n[0] + ", y " + n[1], x.weight(0, 0), ALL);
            due("far " + n[2] + " to x " + n[0] + ", y " + n[1], x.pays(0), 7);
        }
    }

    private static void kindAndTongueFields() {
        says("kind; tongue: of the NAME");
        for (int kind = 0; kind < 4; kind++) {
            Counted x = new Counted();
            shore(x, 9, 2, 8, 0);
            currentAllYear(x, 44, 33);
            x.cast(kind, 0, 1, 0, place(8, 2), kind == 2 ? 12 : 0);
            for (int tongue = 0; tongue < 6; tongue++) {
                x.name(9, 5, tongue);
                x.find(0xAAAA, 0, tongue, 0, 60);
            }
            prizeOf(x, "prize 1 if kind=" + kind);
            prizeOf(x, "prize 20 if tongue=" + kind);
            prizeOf(x, "prize 300 if tongue>4");
            for (int f = 0; f < 6; f++) {
                due("kind " + kind + ", tongue " + f, x.pays(f), 1 + (f == kind ? 20 : 0) + (f == 5 ? 300 : 0));
            }
        }
    }

    private static void weightField() {
        says("weight: WEIGHT / 1000, cut.");
        int[] weights = {500000, 250000, 125000, 62500, 31250, 15625, 7812, 3906, 1953, 977, 488, 244};
        for (int t = 0; t < 12; t++) {
            Counted x = paying();
            x.find(1, 0, 0, 3 + t, 3 + t);
            int cut = weights[t] / 1000;
            prizeOf(x, "prize 1 if weight=" + cut);
            prizeOf(x, "prize 20 if weight<" + (cut + 1));
            prizeOf(x, "prize 300 if weight>" + cut);
            if (cut > 0) prizeOf(x, "prize 4000 if weight>" + (cut - 1));
            due("the weight", x.weight(1, 0), weights[t]);
            due("a weight of " + weights[t], x.pays(1), 21 + (cut > 0 ? 4000 : 0));
        }
        Counted all = new Counted();
        shore(all, 9, 2, 16, 0);
        currentAllYear(all, 44, 33);
        all.cast(0, 0, 1, 0, place(8, 2), 0);
        all.name(9, 5, 0);
        all.find(0, 0, 0, 0, 60);
        prizeOf(all, "prize 1 if weight=1000");
        prizeOf(all, "prize 20 if weight>1000");
        prizeOf(all, "prize 300 if weight>999");
        due("the greatest weight", all.pays(0), 301);
    }

    private static void signs() {
        says("one of = < >");
        int[] is = {0, 1, 1, 4, 500};
        for (int i = 0; i < 5; i++) {
            for (int n = Math.max(0, is[i] - 1); n <= is[i] + 1; n++) {
                due(FIELDS[i] + "=" + n, payFor(FIELDS[i] + "=" + n), is[i] == n ? 7 : 0);
                due(FIELDS[i] + "<" + n, payFor(FIELDS[i] + "<" + n), is[i] < n ? 7 : 0);
                due(FIELDS[i] + ">" + n, payFor(FIELDS[i] + ">" + n), is[i] > n ? 7 : 0);
                due("!" + FIELDS[i] + "=" + n, payFor("!" + FIELDS[i] + "=" + n), is[i] == n ? 0 : 7);
                due("!" + FIELDS[i] + "<" + n, payFor("!" + FIELDS[i] + "<" + n), is[i] < n ? 0 : 7);
                due("!" + FIELDS[i] + ">" + n, payFor("!" + FIELDS[i] + ">" + n), is[i] > n ? 0 : 7);
            }
        }
    }

    private static void allPrizes() {
        says("A FIND PAYS all PRIZES whose TESTS hold");
        Counted x = paying();
        int sum = 0;
        for (int p = 0; p < 8; p++) {
            due("so far", x.pays(0), sum);
            prizeOf(x, "prize 9999");
            sum += 9999;
        }
        due("all eight, the most each", x.pays(0), 79992);
        for (int f = 1; f < 16; f++) x.find(Integer.parseInt("" + f, 16), 0, 0, 3, 3);
        due("all 16 finds", x.purse(999), 16 * 79992);
    }

    private static void purse() {
        says("What all FINDS PAY that were told at a time or ahead. BAD: asOf.");
        Counted x = paying();
        prizeOf(x, "prize 7");
        int[] not = {-1, 1000, LOW, HIGH};
        for (int t : not) due("as of " + t, x.purse(t), BAD);
        due("as of the first time", x.purse(0), 7);
        x.clock(999);
        x.find(1, 0, 0, 3, 3);
        due("ahead of the last time", x.purse(998), 7);
        due("as of the last time", x.purse(999), 14);
        due("no finds", new Counted().purse(999), 0);
    }

    private static void letters() {
        says("How many FINDS that were told at a time or ahead, not OUT, have NAMES of a TONGUE. NONE; BAD: asOf.");
        Counted x = new Counted();
        x.name(9, 5, 0);
        x.name(9, 5, 5);
        x.name(0, 0, 5);
        int[] noTongue = {-1, 6, LOW, HIGH};
        for (int tongue : noTongue) due("tongue " + tongue, x.letters(tongue, 0), NONE);
        int[] noTime = {-1, 1000, LOW, HIGH};
        for (int t : noTime) due("as of " + t, x.letters(5, t), BAD);
        due("no finds", x.letters(5, 999), 0);
        for (int f = 0; f < 15; f++) x.find(0x1111, 0, f % 3, 0, 0);
        x.clock(999);
        x.find(0x1111, 0, 1, 0, 0);
        due("the first tongue", x.letters(0, 0), 5);
        due("the last, of two names; twins count", x.letters(5, 998), 10);
        due("as of the last time", x.letters(5, 999), 11);
        x.drop(15, 1);
        due("out", x.letters(5, 999), 10);
        due("none of it", x.letters(1, 999), 0);
    }

    private static void count() {
        says("0 CASTS, 1 NAMES, 2 FINDS, 3 PRIZES, 4 TIME, 5 bytes of THE TAPE, 6 CARDS of all CASTS, 7 FINDS that are OUT. NONE.");
        Counted x = new Counted();
        int[] not = {-1, 8, LOW, HIGH};
        for (int what : not) due("what " + what, x.count(what), NONE);
        for (int c = 0; c < 5; c++) x.cast(0, 1000 * c, 1000, 0, 0, 0);
        for (int n = 0; n < 6; n++) x.name(9, 5, 0);
        for (int f = 0; f < 16; f++) x.find(f % 10, 0, 0, 0, 0);
        for (int p = 0; p < 8; p++) prizeOf(x, "prize 1");
        for (int i = 0; i < 15; i++) x.feed(0, 8);
        for (int f = 0; f < 16; f++) x.drop(f, 1);
        x.clock(999);
        int[] most = {5, 6, 16, 8, 999, 120, 5000, 16};
        for (int what = 0; what < 8; what++) due("all is full, what " + what, x.count(what), most[what]);
    }

    private static void calls() {
        says("An object is used for at most 512 calls after it has been made");
        Counted x = new Counted();
        while (x.calls() < Counted.MOST_CALLS - 6) x.paint(0, 9, x.calls() % 5, 3, x.calls() % 17);
        due("the 507th", x.paint(5, 5, 5, 0, 1), 1);
        due("the 508th", x.cast(0, 9999, 1, 47, 59, 300), 0);
        due("the 509th", x.name(909, 505, 5), 0);
        due("the 510th", x.find(0x9999, 3, 0, 60, 60), 0);
        due("the 511th", x.judge(0), 0);
        due("the 512th", x.count(6), 1);
        due("so many calls", x.calls(), 512);
    }
}
