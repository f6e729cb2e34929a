/** The boundaries of part 3 of the document, NAMES and FINDS, and of promises 13 to 22. */
public final class FindBoundsTest extends Bounds {
    private static final int[] HALVES = {500000, 250000, 125000, 62500, 31250, 15625, 7812, 3906, 1953, 977, 488, 244};

    public static void main(String[] args) {
        sixNames();
        rectangles();
        tongues();
        cellsOfNames();
        sixteenFinds();
        whatAFindHas();
        eachMayBeOut();
        digits();
        findMonths();
        findRefuses();
        time();
        toldAtTime();
        out();
        fits();
        knownDigits();
        cardsOfBest();
        weightByMonths();
        weightRefuses();
        best();
        judged();
        twins();
        twinsOfReadDigits();
        gotAsOf();
        gotByName();
        gotAll();
        castsBehindFinds();
        end();
    }

    /** A cast of so many numbers from a first one on in a month next to the shore (9, y): half of it is found each month. */
    private static int castAtCoast(Counted x, int y, int first, int many, int month) {
        return x.cast(0, first, many, month, place(8, y), 0);
    }

    private static Counted coast() {
        Counted x = new Counted();
        for (int y = 0; y < 6; y++) shore(x, 9, y, 8, 0);
        currentAllYear(x, 44, 33);
        return x;
    }

    private static void sixNames() {
        says("NAMES are numbered from 0 on, 6 at most");
        Counted x = new Counted();
        due("none", x.find(0, 0, 0, 0, 0), NONE);
        for (int n = 0; n < 6; n++) {
            due("name " + n, x.name(9, 5, n), n);
            due("so many", x.count(1), n + 1);
            due("it is there", x.find(n, 0, n, 0, 0), n);
            due("the next is not", x.find(n, 0, n + 1, 0, 0), NONE);
        }
        due("a seventh", x.name(9, 5, 0), FULL);
        due("a seventh, another", x.name(0, 0, 5), FULL);
        due("six", x.count(1), 6);
        due("no seventh is there", x.find(0, 0, 6, 0, 0), NONE);
    }

    private static void rectangles() {
        says("A NAME (x: 100 x0 + x1, y: 100 y0 + y1): its number. NONE: CELLS; BAD: x0 above x1, y0 above y1, tongue; FULL.");
        Counted x = new Counted();
        int[] noX = {-1, 10, 11, 99, 110, 910, 999, 1000, 1009, 1010, -100, -99, -101, LOW, HIGH, 65536};
        for (int v : noX) due("x " + v, x.name(v, 0, 0), NONE);
        int[] noY = {-1, 6, 10, 99, 106, 506, 599, 600, 605, 606, -100, -99, LOW, HIGH, 65536};
        for (int v : noY) due("y " + v, x.name(0, v, 0), NONE);
        int[] badX = {100, 201, 900, 908};
        for (int v : badX) due("x " + v, x.name(v, 0, 0), BAD);
        int[] badY = {100, 201, 500, 504};
        for (int v : badY) due("y " + v, x.name(0, v, 0), BAD);
        due("none was told", x.count(1), 0);
        due("all of it", x.name(9, 5, 0), 0);
        due("the first cell", x.name(0, 0, 0), 1);
        due("the last cell", x.name(909, 505, 0), 2);
        due("the last column", x.name(909, 5, 0), 3);
        due("the last row", x.name(9, 505, 0), 4);
        due("x0 below x1 by one", x.name(809, 405, 0), 5);
    }

    private static void tongues() {
        says("with a TONGUE (0 .. 5)");
        Counted x = new Counted();
        int[] not = {-1, 6, LOW, HIGH};
        for (int tongue : not) {
            due("tongue " + tongue, x.name(9, 5, tongue), BAD);
            due("letters of " + tongue, x.letters(tongue, 0), NONE);
        }
        due("the first", x.name(9, 5, 0), 0);
        due("the last", x.name(9, 5, 5), 1);
        x.find(0, 0, 0, 0, 0);
        x.find(0, 0, 1, 0, 0);
        x.find(0, 0, 1, 0, 0);
        due("letters of the first", x.letters(0, 0), 1);
        due("letters of the last", x.letters(5, 0), 2);
        due("letters of another", x.letters(4, 0), 0);
    }

    private static void cellsOfNames() {
        says("each of a rectangle of CELLS");
        Counted x = coast();
        castAtCoast(x, 2, 0, 10, 0);
        int[][] names = {{909, 202}, {9, 2}, {909, 205}, {8, 5}, {909, 1}, {909, 305}};
        int[] has = {1, 1, 1, 0, 0, 0};
        for (int n = 0; n < 6; n++) {
            due("name " + n, x.name(names[n][0], names[n][1], 0), n);
            x.find(n, 0, n, 0, 0);
            due("x " + names[n][0] + ", y " + names[n][1], x.weight(n, 0), has[n] * HALVES[0]);
        }
        Counted corners = new Counted();
        for (int y = 0; y < 6; y++) {
            shore(corners, 0, y, 8, 0);
            shore(corners, 9, y, 8, 0);
        }
        corners.wind(0, -1, 0);
        corners.wind(1, 1, 0);
        corners.cast(1, 0, 1, 0, place(1, 0), 0);
        corners.cast(1, 1, 1, 1, place(8, 5), 0);
        corners.name(9, 5, 0);
        corners.name(0, 0, 0);
        corners.name(909, 505, 0);
        for (int n = 0; n < 3; n++) {
            corners.find(0, 0, n, 0, 0);
            corners.find(1, 0, n, 1, 1);
        }
        due("the first corner in all", corners.weight(0, 0), HALVES[0]);
        due("the last corner in all", corners.weight(1, 1), HALVES[0]);
        due("the first corner alone", corners.weight(2, 0), HALVES[0]);
        due("not the last", corners.weight(3, 1), 0);
        due("not the first", corners.weight(4, 0), 0);
        due("the last corner alone", corners.weight(5, 1), HALVES[0]);
    }

    private static void sixteenFinds() {
        says("FINDS are numbered from 0 on, 16 at most");
        Counted x = new Counted();
        x.name(9, 5, 0);
        due("none", x.judge(0), NONE);
        for (int f = 0; f < 16; f++) {
            due("not there yet", x.judge(f), NONE);
            due("find " + f, x.find(0x1234, 0, 0, 0, 0), f);
            due("it is there", x.judge(f), 3);
            due("so many", x.count(2), f + 1);
        }
        due("a 17th", x.find(0x1234, 0, 0, 0, 0), FULL);
        x.drop(3, 1);
        due("full though one is out", x.find(0x1234, 0, 0, 0, 0), FULL);
        due("16", x.count(2), 16);
        due("no 17th is there", x.judge(16), NONE);
    }

    private static void digits() {
        says("A FIND (digits to the base 16, the first one the highest; 10: not known): its number.");
        for (int at = 0; at < 4; at++) {
            Counted x = new Counted();
            x.name(9, 5, 0);
            int f = 0;
            for (int digit = 0; digit < 16; digit++) {
                int want = digit <= 10 ? f++ : BAD;
                due("digit " + digit + " at " + at, x.find(digit << 4 * at, 0, 0, 0, 0), want);
            }
            due("all others known, all others not", x.find(0xAAAA & ~(15 << 4 * at) | 11 << 4 * at, 0, 0, 0, 0), BAD);
        }
        Counted x = new Counted();
        x.name(9, 5, 0);
        int[] not = {-1, 0x10000, 0x1AAAA, 0xFFFF, 0xBBBB, 0x10000 * 10, LOW, HIGH, -0x10000, LOW + 0x1234};
        for (int row : not) due("row " + row, x.find(row, 0, 0, 0, 0), BAD);
        due("the least", x.find(0, 0, 0, 0, 0), 0);
        due("the most with all known", x.find(0x9999, 0, 0, 0, 0), 1);
        due("none known", x.find(0xAAAA, 0, 0, 0, 0), 2);
    }

    private static void findMonths() {
        says("months from .. to (0 .. 60)");
        Counted x = new Counted();
        x.name(9, 5, 0);
        int[][] not = {{-1, 0}, {-1, -1}, {0, 61}, {61, 61}, {60, 61}, {1, 0}, {60, 59}, {60, 0}, {0, -1}, {LOW, 0}, {0, HIGH},
            {LOW, HIGH}, {HIGH, LOW}, {HIGH, HIGH}};
        for (int[] m : not) due(m[0] + " .. " + m[1], x.find(0, 0, 0, m[0], m[1]), BAD);
        int[][] good = {{0, 0}, {60, 60}, {0, 60}, {59, 60}, {0, 1}, {30, 30}};
        for (int f = 0; f < 6; f++) due(good[f][0] + " .. " + good[f][1], x.find(0, 0, 0, good[f][0], good[f][1]), f);
    }

    private static void findRefuses() {
        says("NONE: NAME, CASTER; BAD; FULL.");
        Counted x = new Counted();
        x.name(9, 5, 0);
        x.name(9, 5, 0);
        int[] noName = {-1, 2, 6, LOW, HIGH};
        for (int n : noName) due("name " + n, x.find(0, 0, n, 0, 0), NONE);
        int[] noCaster = {-1, 4, LOW, HIGH};
        for (int caster : noCaster) due("caster " + caster, x.find(0, caster, 0, 0, 0), NONE);
        due("none was told", x.count(2), 0);
        due("the last of both", x.find(0, 3, 1, 0, 0), 0);
    }

    private static void time() {
        says("TIME becomes t, not less than it was: what it was. BAD.");
        Counted x = new Counted();
        due("below 0", x.clock(-1), BAD);
        due("far below", x.clock(LOW), BAD);
        due("as it is", x.clock(0), 0);
        due("on by one", x.clock(1), 0);
        due("back by one", x.clock(0), BAD);
        due("on", x.clock(500), 1);
        due("back by one", x.clock(499), BAD);
        due("as it is", x.clock(500), 500);
        due("behind the last", x.clock(1000), BAD);
        due("far above", x.clock(HIGH), BAD);
        due("it stays", x.count(4), 500);
        due("the last", x.clock(999), 500);
        due("the last again", x.clock(999), 999);
        due("behind the last", x.clock(1000), BAD);
        due("back by one", x.clock(998), BAD);
        due("it stays", x.count(4), 999);
    }

    private static void toldAtTime() {
        says("told at TIME (0 .. 999, it goes on only)");
        Counted x = coast();
        castAtCoast(x, 0, 0, 100, 0);
        x.name(9, 5, 3);
        prizeOf(x, "prize 1");
        int[] times = {0, 1, 998, 999};
        for (int f = 0; f < 4; f++) {
            x.clock(times[f]);
            x.find(f, 0, 0, 0, 60);
        }
        int[] asOf = {0, 1, 2, 997, 998, 999};
        int[] known = {1, 2, 2, 2, 3, 4};
        for (int i = 0; i < 6; i++) {
            due("got as of " + asOf[i], x.got(0, 0, asOf[i]), known[i]);
            due("purse as of " + asOf[i], x.purse(asOf[i]), known[i]);
            due("letters as of " + asOf[i], x.letters(3, asOf[i]), known[i]);
        }
        int[] not = {-1, 1000, LOW, HIGH};
        for (int t : not) {
            due("got as of " + t, x.got(0, 0, t), BAD);
            due("purse as of " + t, x.purse(t), BAD);
            due("letters as of " + t, x.letters(3, t), BAD);
        }
        x.drop(0, 1);
        x.drop(0, 0);
        due("out and back: told when it was", x.got(0, 0, 0), 1);
    }

    private static void out() {
        says("A FIND is OUT (1), not (0): what it was. NONE; BAD.");
        Counted x = new Counted();
        due("no find", x.drop(0, 1), NONE);
        x.name(9, 5, 0);
        x.find(0, 0, 0, 0, 0);
        x.find(1, 0, 0, 0, 0);
        int[] not = {-1, 2, LOW, HIGH};
        for (int f : not) due("find " + f, x.drop(f, 1), NONE);
        for (int is : not) due("is " + is, x.drop(1, is), BAD);
        due("none is out", x.count(7), 0);
        due("out", x.drop(1, 1), 0);
        for (int is : not) due("is " + is, x.drop(1, is), BAD);
        due("one is out", x.count(7), 1);
        due("it was out", x.drop(1, 1), 1);
        due("the other", x.drop(0, 1), 0);
        due("all are out", x.count(7), 2);
        due("it was out", x.drop(1, 0), 1);
        due("it was not", x.drop(1, 0), 0);
        due("one is out", x.count(7), 1);
    }

    private static void fits() {
        says("A CAST FITS a FIND if the CASTERS are one and some of its NUMBERS (told with four digits) agrees with all known digits");
        int[][] casts = {{0, 1}, {9999, 1}, {95, 11}, {995, 10}, {9990, 10}, {7, 1}};
        for (int[] c : casts) {
            int last = c[0] + c[1] - 1;
            Counted x = coast();
            castAtCoast(x, 0, c[0], c[1], 0);
            x.name(9, 5, 0);
            int[] numbers = {c[0] - 1, c[0], last, last + 1};
            int f = 0;
            for (int number : numbers) {
                if (number < 0 || number > 9999) continue;
                boolean in = c[0] <= number && number <= last;
                x.find(rowOf(number), 0, 0, 0, 60);
                due(number + " of " + c[0] + " .. " + last, x.judge(f), in ? 2 : 3);
                due("cards", x.cards(f), in ? 1 : 0);
                x.find(rowOf(number), 1, 0, 0, 60);
                due("of another caster", x.judge(f + 1), 3);
                f += 2;
            }
        }
        Counted seven = coast();
        castAtCoast(seven, 0, 7, 1, 0);
        seven.name(9, 5, 0);
        int[] rows = {0x0007, 0xAAA7, 0x000A, 0xAA0A, 0x7AAA, 0x7000, 0xA7AA, 0xAA7A, 0x0A07};
        int[] due = {2, 2, 2, 2, 3, 3, 3, 3, 2};
        for (int f = 0; f < rows.length; f++) {
            seven.find(rows[f], 0, 0, 0, 60);
            due("0007 against " + Integer.toHexString(rows[f]), seven.judge(f), due[f]);
        }
        for (int caster = 0; caster < 4; caster++) {
            Counted x = coast();
            x.cast(0, 5, 1, 0, place(8, 0), 100 * caster);
            x.name(9, 5, 0);
            for (int other = 0; other < 4; other++) {
                x.find(5, other, 0, 0, 60);
                due("caster " + caster + " against " + other, x.judge(other), caster == other ? 2 : 3);
            }
        }
    }

    private static int rowOf(int number) {
        return Integer.parseInt(Integer.toString(number), 16);
    }

    private static void knownDigits() {
        says("agrees with all known digits: how many do are its CARDS");
        Counted x = coast();
        castAtCoast(x, 0, 1234, 1, 0);
        x.name(9, 5, 0);
        int f = 0;
        for (int at = 0; at < 4; at++) {
            int off = 0x1234 + (1 << 4 * at);
            int dark = 0x1234 | 15 << 4 * at;
            x.find(off, 0, 0, 0, 60);
            due("one digit is off, at " + at, x.judge(f++), 3);
            x.find(dark - (5 << 4 * at), 0, 0, 0, 60);
            due("that one is not known", x.judge(f++), 2);
            x.find(0xAAAA - (10 << 4 * at) + (0x1234 & 15 << 4 * at), 0, 0, 0, 60);
            due("that one alone is known", x.judge(f++), 2);
            x.find(0xAAAA - (10 << 4 * at) + (off & 15 << 4 * at), 0, 0, 0, 60);
            due("that one alone is known, and off", x.judge(f++), 3);
        }
    }

    private static void cardsOfBest() {
        says("How many CARDS of BEST it can be; 0: there is none. NONE.");
        Counted x = coast();
        castAtCoast(x, 0, 0, 1000, 0);
        x.name(9, 5, 0);
        x.name(8, 5, 0);
        int[] rows = {0xAAAA, 0x0AAA, 0x1AAA, 0xAAA5, 0xAA55, 0xA555, 0x0555, 0x09AA, 0x0AA0};
        int[] many = {1000, 1000, 0, 100, 10, 1, 1, 100, 100};
        for (int f = 0; f < rows.length; f++) {
            x.find(rows[f], 0, 0, 0, 60);
            due("row " + Integer.toHexString(rows[f]), x.cards(f), many[f]);
        }
        x.find(0xAAAA, 0, 1, 0, 60);
        due("it fits, but has no weight", x.cards(9), 0);
        castAtCoast(x, 1, 2000, 7, 0);
        due("one alike behind it", x.cards(0), 1000);
        int[] not = {-1, 10, 16, LOW, HIGH};
        for (int f : not) due("find " + f, x.cards(f), NONE);
    }

    private static void weightByMonths() {
        says("WEIGHT: PARTS of its DRIFT (12 months) that are FOUND in CELLS of the NAME in months from .. to; 0 if it does not FIT.");
        int[] casts = {0, 1, 20, 46, 47};
        int[] around = {-2, -1, 0, 1, 2, 10, 11, 12, 13};
        for (int cast : casts) {
            for (int from : around) {
                Counted x = coast();
                castAtCoast(x, 0, 0, 1, cast);
                x.name(9, 5, 0);
                int f = 0;
                for (int to : around) {
                    if (cast + from < 0 || to < from || cast + to > 60) continue;
                    x.find(0, 0, 0, cast + from, cast + to);
                    long want = 0;
                    for (int t = Math.max(0, from); t <= Math.min(11, to); t++) want += HALVES[t];
                    due("cast in " + cast + ", found in " + (cast + from) + " .. " + (cast + to), x.weight(f++, 0), want);
                }
            }
        }
        Counted x = coast();
        castAtCoast(x, 0, 0, 1, 47);
        x.name(9, 5, 0);
        int[][] months = {{0, 60}, {0, 46}, {47, 47}, {58, 58}, {59, 59}, {59, 60}, {60, 60}, {58, 60}};
        int[] want = {999755, 0, 500000, 244, 0, 0, 0, 244};
        for (int f = 0; f < months.length; f++) {
            x.find(0, 0, 0, months[f][0], months[f][1]);
            due("the last month of a cast, found in " + months[f][0] + " .. " + months[f][1], x.weight(f, 0), want[f]);
        }
        x.find(1, 0, 0, 0, 60);
        due("0 if it does not fit", x.weight(8, 0), 0);
    }

    private static void weightRefuses() {
        says("WEIGHT. NONE.");
        Counted x = coast();
        x.name(9, 5, 0);
        x.find(0, 0, 0, 0, 60);
        due("no cast", x.weight(0, 0), NONE);
        castAtCoast(x, 0, 0, 1, 0);
        due("the one", x.weight(0, 0), 999755);
        int[] not = {-1, 1, 16, LOW, HIGH};
        for (int i : not) {
            due("find " + i, x.weight(i, 0), NONE);
            due("cast " + i, x.weight(0, i), NONE);
        }
        due("neither", x.weight(1, 1), NONE);
    }

    /** Five casts, each at a shore of its own: find f has a name of the rows up to f. */
    private static Counted fiveCasts() {
        Counted x = coast();
        for (int c = 0; c < 5; c++) castAtCoast(x, c, 10 * c, 10, 0);
        for (int n = 0; n < 6; n++) x.name(9, n, 0);
        return x;
    }

    private static void best() {
        says("BEST is the CAST with the greatest WEIGHT above 0, the least of several.");
        Counted x = fiveCasts();
        x.find(0xAAAA, 0, 5, 0, 60);
        due("all alike: the first", x.best(0), 0);
        for (int c = 0; c < 4; c++) {
            x.paint(9, 9, c, 3, 0);
            due("the next of those alike", x.best(0), c + 1);
        }
        x.paint(9, 9, 4, 3, 0);
        due("none has a weight", x.best(0), NONE);
        Counted last = fiveCasts();
        last.find(0xAAAA, 0, 5, 0, 0);
        last.paint(9, 9, 4, 3, 9);
        due("the last has the greatest", last.best(0), 4);
        last.paint(9, 9, 2, 3, 9);
        due("the least of two", last.best(0), 2);
        last.paint(9, 9, 2, 3, 10);
        due("one of them is greater", last.best(0), 2);
        says("BEST. NONE: none, too.");
        int[] not = {-1, 1, 16, LOW, HIGH};
        for (int f : not) due("find " + f, last.best(f), NONE);
        last.find(0x9999, 0, 5, 0, 60);
        due("none fits", last.best(1), NONE);
        Counted one = fifteenAshore(2, 16);
        one.cast(0, 0, 1, 0, 0, 0);
        one.name(9, 5, 0);
        one.find(0, 0, 0, 0, 60);
        due("a weight of 1", one.weight(0, 0), 1);
        due("is above 0", one.best(0), 0);
        one.paint(8, 8, 0, 3, 1);
        due("a weight of 0", one.weight(0, 0), 0);
        due("is not", one.best(0), NONE);
    }

    private static void judged() {
        says("JUDGED is a FIND: 2 SURE: just one has a WEIGHT; 1 several have; 0 FAKE: some FIT, none has a WEIGHT; 3 none FITS.");
        Counted x = fiveCasts();
        for (int n = 0; n < 6; n++) x.find(0xAAAA, 0, n, 0, 60);
        due("one of five has a weight", x.judge(0), 2);
        for (int f = 1; f < 6; f++) due("so many of five have: " + Math.min(5, f + 1), x.judge(f), 1);
        x.move(0, -1);
        for (int f = 0; f < 6; f++) due("five fit, none has a weight", x.judge(f), 0);
        x.move(0, 0);
        x.find(0x004A, 0, 3, 0, 60);
        due("one fits, it has none", x.judge(6), 0);
        x.find(0x004A, 0, 4, 0, 60);
        due("one fits, it has one", x.judge(7), 2);
        x.find(0x005A, 0, 5, 0, 60);
        due("none fits", x.judge(8), 3);
        x.find(0xAAAA, 1, 5, 0, 60);
        due("none is of that caster", x.judge(9), 3);
        Counted empty = new Counted();
        empty.name(9, 5, 0);
        empty.find(0xAAAA, 0, 0, 0, 60);
        due("nothing was cast", empty.judge(0), 3);
        says("JUDGED: 0 .. 3. NONE.");
        int[] not = {-1, 10, 16, LOW, HIGH};
        for (int f : not) due("find " + f, x.judge(f), NONE);
        says("2 SURE: just one has a WEIGHT;");
        Counted one = fifteenAshore(2, 16);
        one.cast(0, 0, 1, 0, 0, 0);
        one.name(9, 5, 0);
        one.find(0, 0, 0, 0, 60);
        due("a weight of 1", one.judge(0), 2);
        one.cast(0, 1, 1, 0, 0, 0);
        one.find(0xAAAA, 0, 0, 0, 60);
        due("two with a weight of 1", one.judge(1), 1);
        one.paint(8, 8, 0, 3, 1);
        due("a weight of 0", one.judge(0), 0);
    }

    private static void twins() {
        says("the first FIND with a lesser number, not OUT, all of whose digits are known, alike, of the same CASTER.");
        Counted x = new Counted();
        x.name(9, 5, 0);
        for (int f = 0; f < 16; f++) x.find(0x1234, 2, 0, f, 60);
        due("the first of all has none", x.twin(0), NONE);
        for (int f = 1; f < 16; f++) due("the first of several", x.twin(f), 0);
        for (int f = 0; f < 15; f++) {
            x.drop(f, 1);
            due("none is left", x.twin(f + 1), NONE);
            due("of one that is out", x.twin(f), NONE);
            if (f < 14) due("the next that is not out", x.twin(15), f + 1);
        }
        x.drop(14, 0);
        due("just the one ahead", x.twin(15), 14);
        due("a greater number is none", x.twin(14), NONE);
        Counted casters = new Counted();
        casters.name(9, 5, 0);
        for (int f = 0; f < 8; f++) casters.find(0x0000, f % 4, 0, 0, 0);
        for (int f = 0; f < 8; f++) due("by caster, find " + f, casters.twin(f), f < 4 ? NONE : f - 4);
        says("TWIN. NONE: none, too.");
        int[] not = {-1, 8, 16, LOW, HIGH};
        for (int f : not) due("find " + f, casters.twin(f), NONE);
    }

    private static void twinsOfReadDigits() {
        says("TWIN of a FIND all of whose digits are known");
        for (int at = 0; at < 4; at++) {
            int dark = 0x1234 & ~(15 << 4 * at) | 10 << 4 * at;
            int off = 0x1234 + (1 << 4 * at);
            Counted x = new Counted();
            x.name(9, 5, 0);
            x.find(dark, 0, 0, 0, 0);
            x.find(dark, 0, 0, 0, 0);
            x.find(0x1234, 0, 0, 0, 0);
            x.find(off, 0, 0, 0, 0);
            x.find(dark, 0, 0, 0, 0);
            x.find(0x1234, 0, 0, 0, 0);
            due("a digit is not known, at " + at, x.twin(1), NONE);
            due("one ahead has a digit that is not known", x.twin(2), NONE);
            due("a digit is another", x.twin(3), NONE);
            due("one ahead is known", x.twin(4), NONE);
            due("the known one", x.twin(5), 2);
        }
    }

    private static void gotAsOf() {
        says("FINDS that were told then or ahead, not OUT, no TWINS (that have one), SURE for it.");
        Counted x = fiveCasts();
        x.clock(10);
        x.find(0x0000, 0, 0, 0, 60);
        x.clock(20);
        x.find(0x0001, 0, 0, 0, 60);
        x.find(0x0000, 0, 0, 0, 60);
        int[] times = {0, 9, 10, 11, 19, 20, 999};
        int[] got = {0, 0, 1, 1, 1, 2, 2};
        for (int i = 0; i < 7; i++) due("as of " + times[i], x.got(0, 0, times[i]), got[i]);
        x.drop(0, 1);
        due("one is out", x.got(0, 0, 10), 0);
        due("what was its twin counts then", x.got(0, 0, 20), 2);
        x.drop(0, 0);
        x.find(0xAAAA, 0, 5, 0, 60);
        x.find(0x0009, 0, 0, 60, 60);
        x.find(0x9999, 0, 0, 0, 60);
        due("several, fake and strange ones are not sure", x.got(0, -1, 999), 2);
        x.find(0x0002, 0, 1, 0, 60);
        due("sure, in another name", x.got(0, -1, 999), 3);
        due("not for another cast", x.got(1, -1, 999), 0);
        x.move(0, -1);
        due("none is sure with other shifts", x.got(0, -1, 999), 0);
        says("GOT (name -1: any). NONE; BAD: asOf (0 .. 999).");
        due("the first time", x.got(0, 0, 0), 0);
        int[] bad = {-1, 1000, LOW, HIGH};
        for (int t : bad) due("as of " + t, x.got(0, 0, t), BAD);
    }

    private static void gotByName() {
        says("GOT (name -1: any). NONE; BAD: asOf (0 .. 999).");
        Counted x = fiveCasts();
        for (int f = 0; f < 10; f++) x.find(f, 0, f % 5, 0, 60);
        for (int n = 0; n < 6; n++) due("name " + n, x.got(0, n, 0), n < 5 ? 2 : 0);
        due("any", x.got(0, -1, 0), 10);
        due("the last cast", x.got(4, -1, 0), 0);
        int[] noName = {-2, 6, LOW, HIGH};
        for (int n : noName) due("name " + n, x.got(0, n, 0), NONE);
        int[] noCast = {-1, 5, LOW, HIGH};
        for (int c : noCast) due("cast " + c, x.got(c, -1, 0), NONE);
        Counted few = coast();
        due("no casts", few.got(0, -1, 0), NONE);
        castAtCoast(few, 0, 0, 1, 0);
        due("no names, any", few.got(0, -1, 0), 0);
        due("no names, the first", few.got(0, 0, 0), NONE);
    }

    private static void gotAll() {
        says("GOT of a CAST (in a NAME, or any) as of a time");
        Counted x = coast();
        castAtCoast(x, 5, 0, 16, 47);
        x.name(909, 505, 5);
        x.clock(999);
        for (int f = 0; f < 16; f++) x.find(rowOf(f), 0, 0, 47, 47);
        due("all 16 of them", x.got(0, 0, 999), 16);
        due("a time ahead", x.got(0, 0, 998), 0);
        for (int f = 0; f < 16; f++) x.drop(f, 1);
        due("all out", x.got(0, -1, 999), 0);
        due("all out", x.count(7), 16);
        due("none of them writes", x.letters(5, 999), 0);
    }

    private static void castsBehindFinds() {
        says("read against all casts");
        Counted x = coast();
        x.name(9, 5, 0);
        for (int f = 0; f < 16; f++) x.find(rowOf(10 * (f % 5) + f / 5), 0, 0, 0, 60);
        for (int c = 0; c < 5; c++) {
            due("ahead of cast " + c + ": none fits find " + c, x.judge(c), 3);
            castAtCoast(x, c, 10 * c, 10, 0);
            due("behind it: sure", x.judge(c), 2);
            due("its best", x.best(c), c);
        }
        for (int f = 0; f < 16; f++) due("find " + f, x.best(f), f % 5);
        int[] got = {4, 3, 3, 3, 3};
        for (int c = 0; c < 5; c++) due("got by cast " + c, x.got(c, -1, 0), got[c]);
    }

    /**
     * A cast of each caster c lands at (9, c), which has a name of its own with tongue c. Find f is one of caster f % 4, with a
     * number and a month of its own; those behind the eighth are half read.
     */
    private static Counted findsOfFour() {
        Counted x = coast();
        for (int c = 0; c < 4; c++) {
            x.cast(0, 100 * c, 10, 0, place(8, c), 100 * c);
            x.name(909, 101 * c, c);
        }
        for (int f = 0; f < 16; f++) {
            int row = f % 4 << 8 | f / 4;
            x.clock(10 * f);
            x.find(f < 8 ? row : row | 0xA0A0, f % 4, f % 4, f / 4, f / 4);
        }
        return x;
    }

    private static void whatAFindHas() {
        says("four digits of a NUMBER as they were read, each known or not; a CASTER; a NAME; months from .. to (0 .. 60); "
            + "told at TIME (0 .. 999, it goes on only)");
        Counted x = findsOfFour();
        for (int f = 0; f < 16; f++) {
            for (int c = 0; c < 4; c++) {
                due("find " + f + " and cast " + c, x.weight(f, c), c == f % 4 ? HALVES[f / 4] : 0);
            }
            due("find " + f + " is sure", x.judge(f), 2);
            due("find " + f + " has a best", x.best(f), f % 4);
            due("find " + f + " can be one card", x.cards(f), 1);
            due("find " + f + " has no twin", x.twin(f), NONE);
            due("told at its time", x.got(f % 4, f % 4, 10 * f), f / 4 + 1);
            due("letters of its name", x.letters(f % 4, 10 * f), f / 4 + 1);
            if (f > 0) due("not told ahead of it", x.got(f % 4, f % 4, 10 * f - 1), f / 4);
        }
    }

    private static void eachMayBeOut() {
        says("each may be OUT");
        Counted x = findsOfFour();
        for (int f = 0; f < 16; f++) {
            due("find " + f + " is not out", x.drop(f, 1), 0);
            due("it alone is", x.count(7), 1);
            for (int c = 0; c < 4; c++) {
                due("find " + f + " is out, cast " + c, x.got(c, -1, 999), c == f % 4 ? 3 : 4);
                due("find " + f + " is out, tongue " + c, x.letters(c, 999), c == f % 4 ? 3 : 4);
            }
            due("find " + f + " is out", x.drop(f, 0), 1);
            due("none is", x.count(7), 0);
        }
        for (int f = 0; f < 16; f++) x.drop(f, 1);
        due("all are", x.count(7), 16);
        due("none is got", x.got(0, -1, 999) + x.got(1, -1, 999) + x.got(2, -1, 999) + x.got(3, -1, 999), 0);
        due("the last is not", x.drop(15, 0), 1);
        due("it is got", x.got(3, -1, 999), 1);
    }
}
