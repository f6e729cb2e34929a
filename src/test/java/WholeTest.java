/** 'What it is', the first words of the document, each part of them by hand, from a cast to what was known at a time. */
public final class WholeTest extends Bounds {
    public static void main(String[] args) {
        kindsInASeaOfCells();
        currentsAndWind();
        monthByMonth();
        shores();
        halfReadNumbers();
        twinsAndFakes();
        shiftsThatFitBest();
        whereANextCastTellsMost();
        prizesReadFromTexts();
        whatWasKnownAtATime();
        end();
    }

    private static void kindsInASeaOfCells() {
        says("Cards that drift: cards of kinds cast into a sea of cells");
        Counted x = new Counted();
        x.wind(4, 2, 0);
        for (int kind = 0; kind < 4; kind++) {
            due("kind " + kind, x.cast(kind, 100 * kind, 50, 4, place(2, 1), kind == 2 ? 6 : 0), kind);
            due("it is there", x.partsAt(kind, 0, 2, 1, 0), ALL);
        }
        int[] to = {2, 4, 3, 6};
        for (int kind = 0; kind < 4; kind++) due("kind " + kind + " behind a month", x.partsAt(kind, 1, to[kind], 1, 0), ALL);
        due("cards of all", x.count(6), 200);
    }

    private static void currentsAndWind() {
        says("carried by currents told as spans and by wind as they float");
        Counted x = new Counted();
        x.current(0, 0, 14, 23);
        x.wind(0, 1, 2);
        x.cast(0, 0, 1, 0, place(5, 2), 0);
        x.cast(1, 1, 1, 0, place(5, 2), 0);
        due("flat, by from: 2 west, 1 south", x.partsAt(0, 1, 3, 1, 0), 250000);
        due("flat, by to: 1 east", x.partsAt(0, 1, 6, 2, 0), 250000);
        due("flat, by half of both: none", x.partsAt(0, 1, 5, 2, 0), 500000);
        due("a bottle, by from and wind", x.partsAt(1, 1, 4, 3, 0), 250000);
        due("a bottle, by to and wind", x.partsAt(1, 1, 7, 4, 0), 250000);
        due("a bottle, by half of both and wind", x.partsAt(1, 1, 6, 4, 0), 500000);
    }

    /** In three months of a quarter each: a cast of 1000000 parts along a row of cells. */
    private static void monthByMonth() {
        says("month by month in parts that are never lost count of");
        Counted x = new Counted();
        for (int month = 0; month < 3; month++) x.current(0, month, 34, 33);
        x.cast(0, 0, 1, 0, place(7, 0), 0);
        int[][] due = {{ALL, 0, 0, 0}, {750000, 250000, 0, 0}, {562500, 375000, 62500, 0}, {421875, 421875, 140625, 15625}};
        for (int months = 0; months <= 3; months++) {
            for (int cx = 7; cx <= 9; cx++) {
                due("behind " + months + " at " + cx, x.partsAt(0, months, cx, 0, 0), due[months][cx - 7]);
            }
            due("behind " + months + " lost", x.parts(0, months, 4), due[months][3]);
        }
    }

    private static void shores() {
        says("landed on shores that are walked and where sand buries them");
        Counted x = new Counted();
        shore(x, 6, 2, 4, 8);
        x.current(0, 0, 44, 33);
        x.cast(0, 0, 1, 0, place(5, 2), 0);
        int[][] due = {{ALL, 0, 0, 0}, {0, 375000, 250000, 375000}, {0, 140625, 343750, 515625}};
        for (int months = 0; months <= 2; months++) {
            for (int what = 0; what < 4; what++) due("behind " + months + " what " + what, x.parts(0, months, what), due[months][what]);
        }
    }

    /** A cast of numbers 1200 .. 1299 lands at (9, 0) in month 0, one of 1300 .. 1399 at (9, 3) in month 20: all is found. */
    private static Counted twoCasts() {
        Counted x = new Counted();
        shore(x, 9, 0, 16, 0);
        shore(x, 9, 3, 16, 0);
        currentAllYear(x, 44, 33);
        x.cast(0, 1200, 100, 0, place(8, 0), 0);
        x.cast(0, 1300, 100, 20, place(8, 3), 0);
        x.name(9, 2, 1);
        x.name(9, 305, 2);
        x.name(9, 5, 3);
        return x;
    }

    private static void halfReadNumbers() {
        says("finds with half read numbers, places by names and months as spans, read against all casts");
        Counted x = twoCasts();
        int[][] finds = {{0x12A4, 0, 0, 60}, {0x1AA4, 2, 0, 60}, {0x1AA4, 1, 0, 60}, {0x1AA4, 2, 0, 19}, {0x1AA4, 2, 1, 60},
            {0x1AA4, 2, 20, 20}, {0xAAAA, 1, 20, 60}, {0x1AA4, 0, 20, 60}, {0x14AA, 2, 0, 60}};
        int[] verdict = {2, 1, 2, 2, 2, 2, 2, 0, 3};
        int[] best = {0, 0, 1, 0, 1, 1, 1, NONE, NONE};
        int[] cards = {10, 10, 10, 10, 10, 10, 100, 0, 0};
        for (int f = 0; f < finds.length; f++) {
            due("find " + f, x.find(finds[f][0], 0, finds[f][1], finds[f][2], finds[f][3]), f);
            due("find " + f + ": judged", x.judge(f), verdict[f]);
            due("find " + f + ": best", x.best(f), best[f]);
            due("find " + f + ": cards", x.cards(f), cards[f]);
        }
    }

    private static void twinsAndFakes() {
        says("twins and fakes told");
        Counted x = twoCasts();
        int[] rows = {0x1234, 0x1334, 0x1234, 0x123A, 0x1334, 0x1234};
        int[] names = {0, 1, 0, 0, 0, 1};
        int[] twin = {NONE, NONE, 0, NONE, 1, 0};
        int[] verdict = {2, 2, 2, 2, 0, 0};
        for (int f = 0; f < rows.length; f++) {
            x.find(rows[f], 0, names[f], 0, 60);
            due("find " + f + ": twin", x.twin(f), twin[f]);
            due("find " + f + ": judged", x.judge(f), verdict[f]);
        }
        due("got are the first and the half read one", x.got(0, -1, 0), 2);
        due("and the second", x.got(1, -1, 0), 1);
        x.drop(0, 1);
        due("the first is out: its twin has none", x.twin(2), NONE);
        due("the last is a twin of that", x.twin(5), 2);
        due("got as many", x.got(0, -1, 0), 2);
    }

    /** With shift 1 of region 0 three cards land at (5, 1); with no other they do. */
    private static void shiftsThatFitBest() {
        says("shifts of currents that fit the finds best, with how many finds left out would turn them");
        Counted x = new Counted();
        shore(x, 5, 1, 16, 0);
        x.current(0, 0, 33, 44);
        x.cast(0, 0, 3, 0, place(4, 0), 0);
        x.name(9, 5, 0);
        due("none found: those that do not land", x.fit(0), -1);
        x.move(0, 1);
        due("three missed of three", x.misses(), 9000000);
        x.find(0, 0, 0, 0, 60);
        due("one of three", x.misses(), 4000000);
        due("one missed with those that do not land", x.misfit(), 1000000);
        due("one of three does not turn it", x.fit(0), -1);
        due("nor does none", x.doubt(0), 0);
        x.find(1, 0, 0, 0, 60);
        due("two of three do", x.fit(0), 1);
        due("one is missed", x.misfit(), 1000000);
        due("each of the two left out turns it", x.doubt(0), 2);
        x.find(2, 0, 0, 0, 60);
        due("three of three", x.misfit(), 0);
        due("one of three left out does not", x.doubt(0), 0);
        due("other regions are as they were", x.fit(1) + x.fit(2) + x.doubt(1) + x.doubt(2), -2);
    }

    /** The water is open but for a shore at (9, 2), and all but month 0 is icy: one way a step, or none, or back. */
    private static void whereANextCastTellsMost() {
        says("where a next cast would tell most");
        Counted x = new Counted();
        shore(x, 9, 2, 16, 0);
        for (int y = 0; y < 6; y++) x.paint(0, 9, y, 4, 4094);
        x.current(0, 0, 44, 33);
        int most = 0;
        int where = NONE;
        for (int at = 0; at < 60; at++) {
            int tells = x.tells(0, 0, at, 0);
            int due = at == place(9, 2) ? STATE : at == place(8, 2) ? 200000 : at == place(7, 2) ? 100000 : 0;
            due("place " + at, tells, due);
            if (tells > most) {
                most = tells;
                where = at;
            }
        }
        due("the cell beside the shore", where, place(8, 2));
    }

    private static void prizesReadFromTexts() {
        says("prizes read from texts");
        Counted x = twoCasts();
        x.find(0x1234, 0, 0, 2, 60);
        x.find(0x1234, 0, 0, 0, 60);
        x.find(0x13AA, 0, 1, 20, 60);
        due("for all", prizeOf(x, "prize 10"), 0);
        due("for those of cast 0, which lie within its rectangle", prizeOf(x, "prize 100 if far=0&months<20&!tongue=2"), 1);
        due("for a weight", prizeOf(x, "prize 1000 if weight>999&kind=0"), 2);
        due("a fault at its sixth byte", prizeOf(x, "prize ten"), -16);
        due("nothing weighs in months 2 .. 60", x.pays(0), 0);
        due("a twin", x.pays(1), 0);
        due("one of cast 1", x.pays(2), 1010);
        x.drop(0, 1);
        due("a twin no more", x.pays(1), 1110);
        due("all", x.purse(999), 2120);
    }

    private static void whatWasKnownAtATime() {
        says("and what was known at a time.");
        Counted x = twoCasts();
        prizeOf(x, "prize 7");
        x.find(0x1201, 0, 0, 0, 60);
        x.clock(10);
        x.find(0x1202, 0, 2, 0, 60);
        x.clock(20);
        x.find(0x1203, 0, 0, 0, 60);
        int[] times = {0, 9, 10, 19, 20, 999};
        int[] got = {1, 1, 2, 2, 3, 3};
        int[] letters = {1, 1, 1, 1, 2, 2};
        for (int i = 0; i < times.length; i++) {
            due("got as of " + times[i], x.got(0, -1, times[i]), got[i]);
            due("in a name as of " + times[i], x.got(0, 0, times[i]), letters[i]);
            due("purse as of " + times[i], x.purse(times[i]), 7 * got[i]);
            due("letters as of " + times[i], x.letters(1, times[i]), letters[i]);
        }
    }
}
