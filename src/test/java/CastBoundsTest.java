/** The boundaries of CASTS in part 1 of the document, and of promises 8 and 9. */
public final class CastBoundsTest extends Bounds {
    public static void main(String[] args) {
        fiveAtMost();
        cards();
        numbers();
        casters();
        months();
        places();
        inWater();
        kinds();
        howKindsFloat();
        weightedMonths();
        numbersOfOneCaster();
        about();
        placeAndMore();
        end();
    }

    private static void fiveAtMost() {
        says("CASTS are numbered from 0 on, 5 at most");
        Counted x = new Counted();
        due("none", x.count(0), 0);
        for (int c = 0; c < 5; c++) {
            due("not there yet", x.about(c, 0), NONE);
            due("cast " + c, x.cast(0, 1000 * c, 1000, 0, 0, 0), c);
            due("it is there", x.about(c, 0), 0);
            due("so many", x.count(0), c + 1);
        }
        due("a sixth", x.cast(0, 5000, 1, 0, 0, 0), FULL);
        due("a sixth of another caster", x.cast(0, 0, 1, 0, 0, 300), FULL);
        due("five", x.count(0), 5);
        due("cards of all", x.count(6), 5000);
        due("no sixth is there", x.about(5, 0), NONE);
    }

    private static void cards() {
        says("n CARDS (1 .. 1000)");
        Counted x = new Counted();
        due("none", x.cast(0, 0, 0, 0, 0, 0), BAD);
        due("below", x.cast(0, 0, -1, 0, 0, 0), BAD);
        due("one too many", x.cast(0, 0, 1001, 0, 0, 0), BAD);
        due("far below", x.cast(0, 0, LOW, 0, 0, 0), BAD);
        due("far above", x.cast(0, 0, HIGH, 0, 0, 0), BAD);
        due("one", x.cast(0, 0, 1, 0, 0, 0), 0);
        due("a thousand", x.cast(0, 1, 1000, 0, 0, 0), 1);
        due("cards of all", x.count(6), 1001);
    }

    private static void numbers() {
        says("with NUMBERS from a first one on (0 .. 9999)");
        Counted x = new Counted();
        due("below 0", x.cast(0, -1, 1, 0, 0, 0), BAD);
        due("below 0, though the last is not", x.cast(0, -1, 2, 0, 0, 0), BAD);
        due("above 9999", x.cast(0, 10000, 1, 0, 0, 0), BAD);
        due("the last above 9999", x.cast(0, 9999, 2, 0, 0, 0), BAD);
        due("the last of many above 9999", x.cast(0, 9001, 1000, 0, 0, 0), BAD);
        due("far below", x.cast(0, LOW, 1, 0, 0, 0), BAD);
        due("wraps around", x.cast(0, HIGH, 1, 0, 0, 0), BAD);
        due("wraps around", x.cast(0, HIGH, 1000, 0, 0, 0), BAD);
        due("from 0 on", x.cast(0, 0, 1000, 0, 0, 0), 0);
        due("up to 9999", x.cast(0, 9000, 1000, 0, 0, 0), 1);
        due("9999 alone, of another caster", x.cast(0, 9999, 1, 0, 0, 100), 2);
    }

    private static void casters() {
        says("of a CASTER (0 .. 3)");
        Counted x = new Counted();
        due("below", x.cast(0, 0, 1, 0, 0, -100), BAD);
        due("just below", x.cast(0, 0, 1, 0, 0, -1), BAD);
        due("above", x.cast(0, 0, 1, 0, 0, 400), BAD);
        due("above, weighted", x.cast(2, 0, 1, 0, 0, 401), BAD);
        due("far off", x.cast(0, 0, 1, 0, 0, LOW), BAD);
        due("far off", x.cast(0, 0, 1, 0, 0, HIGH), BAD);
        for (int caster = 0; caster < 4; caster++) {
            due("caster " + caster, x.cast(0, 0, 1, 0, 0, 100 * caster), caster);
            due("it is his", x.about(caster, 5), caster);
        }
        x.name(0, 0, 0);
        due("a find's, below", x.find(0, -1, 0, 0, 0), NONE);
        due("a find's, the first", x.find(0, 0, 0, 0, 0), 0);
        due("a find's, the last", x.find(0, 3, 0, 0, 0), 1);
        due("a find's, above", x.find(0, 4, 0, 0, 0), NONE);
    }

    private static void months() {
        says("in a month 0 .. 47");
        Counted x = new Counted();
        due("below", x.cast(0, 0, 1, -1, 0, 0), NONE);
        due("above", x.cast(0, 0, 1, 48, 0, 0), NONE);
        due("far below", x.cast(0, 0, 1, LOW, 0, 0), NONE);
        due("far above", x.cast(0, 0, 1, HIGH, 0, 0), NONE);
        due("the first", x.cast(0, 0, 1, 0, 0, 0), 0);
        due("the last", x.cast(0, 1, 1, 47, 0, 0), 1);
        due("it is the last", x.about(1, 3), 47);
    }

    private static void places() {
        says("A CAST (place: 6 x + y");
        Counted x = new Counted();
        due("below", x.cast(0, 0, 1, 0, -1, 0), NONE);
        due("above", x.cast(0, 0, 1, 0, 60, 0), NONE);
        due("far below", x.cast(0, 0, 1, 0, LOW, 0), NONE);
        due("far above", x.cast(0, 0, 1, 0, HIGH, 0), NONE);
        int[] places = {0, 59, 5, 6, 54};
        for (int c = 0; c < 5; c++) {
            due("place " + places[c], x.cast(0, c, 1, 0, places[c], 0), c);
            due("it is so", x.about(c, 4), places[c]);
            due("parts are there", x.partsAt(c, 0, places[c] / 6, places[c] % 6, 0), ALL);
        }
    }

    private static void inWater() {
        says("in a CELL of WATER");
        Counted x = new Counted();
        x.paint(1, 1, 0, 0, 1);
        x.paint(2, 2, 0, 0, 2);
        due("shore", x.cast(0, 0, 1, 0, place(1, 0), 0), STATE);
        due("land", x.cast(0, 0, 1, 0, place(2, 0), 0), STATE);
        due("nothing was cast", x.count(0), 0);
        due("water with ice", x.paint(3, 3, 0, 4, 4095), 1);
        due("is water", x.cast(0, 0, 1, 0, place(3, 0), 0), 0);
        due("water beside the land", x.cast(0, 1, 1, 0, place(2, 1), 0), 1);
    }

    private static void kinds() {
        says("BAD: KIND, NUMBERS, n, more");
        Counted x = new Counted();
        due("kind below", x.cast(-1, 0, 1, 0, 0, 0), BAD);
        due("kind above", x.cast(4, 0, 1, 0, 0, 0), BAD);
        due("kind far below", x.cast(LOW, 0, 1, 0, 0, 0), BAD);
        due("kind far above", x.cast(HIGH, 0, 1, 0, 0, 0), BAD);
        for (int kind = 0; kind < 4; kind++) {
            due("kind " + kind, x.cast(kind, kind, 1, 0, 0, kind == 2 ? 1 : 0), kind);
            due("it is so", x.about(kind, 0), kind);
        }
    }

    private static void howKindsFloat() {
        int[] winds = {-3, -2, -1, 0, 1, 2, 3};
        int[] halves = {-1, -1, 0, 0, 0, 1, 1};
        for (int i = 0; i < 7; i++) {
            Counted x = new Counted();
            x.wind(0, winds[i], 0);
            x.wind(1, 0, winds[i]);
            x.cast(0, 0, 1, 0, place(5, 3), 0);
            x.cast(1, 1, 1, 0, place(5, 3), 0);
            x.cast(2, 2, 1, 0, place(5, 3), 12);
            x.cast(3, 3, 1, 0, place(5, 3), 0);
            x.cast(2, 4, 1, 1, place(5, 3), 12);
            says("of a KIND: 0 FLAT: no WIND counts");
            due("wind " + winds[i], x.partsAt(0, 2, 5, 3, 0), ALL);
            says("1 BOTTLE: WIND");
            due("wind " + winds[i], x.partsAt(1, 1, 5 + winds[i], 3, 0), ALL);
            says("2 WEIGHTED: half of WIND (cut towards 0)");
            due("half of east " + winds[i], x.partsAt(2, 1, 5 + halves[i], 3, 0), ALL);
            due("half of north " + winds[i], x.partsAt(4, 1, 5, 3 + halves[i], 0), ALL);
            says("3 SAIL: twice WIND");
            int to = 5 + 2 * winds[i];
            if (to >= 0 && to <= 9) due("twice " + winds[i], x.partsAt(3, 1, to, 3, 0), ALL);
            else due("twice " + winds[i] + " is beyond", x.parts(3, 1, 4), ALL);
        }
        says("3 SAIL: twice WIND");
        Counted x = new Counted();
        x.wind(0, 3, 0);
        x.current(0, 0, 66, 33);
        x.cast(3, 0, 1, 0, place(0, 3), 0);
        due("the longest way without a shift: 9", x.partsAt(0, 1, 9, 3, 0), ALL);
        x.move(0, 1);
        due("and with one: 10", x.parts(0, 1, 4), ALL);
        x.move(0, -1);
        due("or 8", x.partsAt(0, 1, 8, 3, 0), ALL);
    }

    private static void weightedMonths() {
        says("and it sinks behind so many months (1 .. 12)");
        Counted x = new Counted();
        for (int caster = 0; caster < 4; caster++) {
            due("no month", x.cast(2, 0, 1, 0, 0, 100 * caster), BAD);
            due("13 months", x.cast(2, 0, 1, 0, 0, 100 * caster + 13), BAD);
            due("99 months", x.cast(2, 0, 1, 0, 0, 100 * caster + 99), BAD);
        }
        due("below 0", x.cast(2, 0, 1, 0, 0, -1), BAD);
        due("-99, which modulo 100 would be 1", x.cast(2, 0, 1, 0, 0, -99), BAD);
        due("one month", x.cast(2, 0, 1, 0, 0, 1), 0);
        due("12 months", x.cast(2, 1, 1, 0, 0, 12), 1);
        due("12 months of the last caster", x.cast(2, 0, 1, 0, 0, 312), 2);
        due("whose it is", x.about(2, 5), 3);
        due("behind one month: there", x.parts(0, 1, 0), ALL);
        due("behind two: sunk", x.parts(0, 2, 5), ALL);
        due("12 months: never within them", x.parts(1, 12, 0), ALL);
        due("12 months of the last caster", x.parts(2, 12, 0), ALL);
        for (int caster = 0; caster < 4; caster++) {
            for (int sinks = 1; sinks <= 12; sinks++) {
                Counted one = new Counted();
                one.cast(2, 0, 1, 0, 0, 100 * caster + sinks);
                due("caster " + caster + ", months " + sinks, one.parts(0, sinks, 0), ALL);
                if (sinks < 12) due("a month on", one.parts(0, sinks + 1, 5), ALL);
            }
        }
        says("WEIGHTED, the months behind which it sinks, else 0)");
        int[] others = {0, 1, 3};
        for (int kind : others) {
            due("a month, kind " + kind, x.cast(kind, 5, 1, 0, 0, 1), BAD);
            due("99 months, kind " + kind, x.cast(kind, 5, 1, 0, 0, 99), BAD);
            due("a month, the last caster, kind " + kind, x.cast(kind, 5, 1, 0, 0, 301), BAD);
        }
        due("0, the last caster", x.cast(3, 5, 1, 0, 0, 300), 3);
    }

    private static void numbersOfOneCaster() {
        says("STATE: no WATER, or a NUMBER of that CASTER was cast; FULL.");
        Counted x = new Counted();
        due("100 .. 109", x.cast(0, 100, 10, 0, 0, 100), 0);
        due("its first", x.cast(0, 100, 1, 0, 0, 100), STATE);
        due("its last", x.cast(0, 109, 1, 0, 0, 100), STATE);
        due("one within", x.cast(0, 105, 1, 0, 0, 100), STATE);
        due("up to its first", x.cast(0, 91, 10, 0, 0, 100), STATE);
        due("from its last on", x.cast(0, 109, 10, 0, 0, 100), STATE);
        due("around it", x.cast(0, 50, 100, 0, 0, 100), STATE);
        due("itself", x.cast(0, 100, 10, 0, 0, 100), STATE);
        due("itself, weighted", x.cast(2, 100, 10, 0, 0, 101), STATE);
        due("up to just ahead of it", x.cast(0, 90, 10, 0, 0, 100), 1);
        due("from just behind it", x.cast(0, 110, 10, 0, 0, 100), 2);
        due("itself, of the caster ahead", x.cast(0, 100, 10, 0, 0, 0), 3);
        due("itself, of the caster behind", x.cast(0, 100, 10, 0, 0, 200), 4);
        due("the number of a later one", x.cast(0, 119, 1, 0, 0, 100), STATE);
        due("a free one", x.cast(0, 120, 1, 0, 0, 100), FULL);
    }

    private static void about() {
        says("Of a CAST what 0 KIND, 1 first NUMBER, 2 n, 3 month, 4 place, 5 CASTER. NONE.");
        Counted x = new Counted();
        due("no cast", x.about(0, 0), NONE);
        int[][] told = {{0, 0, 1, 0, 0, 0}, {1, 9999, 1, 47, 59, 1}, {2, 1, 1000, 46, 58, 2}, {3, 9000, 999, 1, 6, 3},
            {2, 5000, 2, 12, 30, 0}};
        for (int[] c : told) x.cast(c[0], c[1], c[2], c[3], c[4], 100 * c[5] + (c[0] == 2 ? 12 : 0));
        for (int c = 0; c < 5; c++) {
            for (int what = 0; what < 6; what++) due("cast " + c + " what " + what, x.about(c, what), told[c][what]);
            due("what below", x.about(c, -1), NONE);
            due("what above", x.about(c, 6), NONE);
        }
        int[] not = {-1, 5, LOW, HIGH};
        for (int c : not) due("cast " + c, x.about(c, 0), NONE);
        for (int what : new int[] {LOW, HIGH}) due("what " + what, x.about(0, what), NONE);
    }

    private static void placeAndMore() {
        says("A CAST (place: 6 x + y; more: 100 times the CASTER and, WEIGHTED, the months behind which it sinks, else 0): its number.");
        for (int at = 0; at < 60; at += 5) {
            Counted x = new Counted();
            for (int c = 0; c < 5; c++) {
                due("place " + (at + c), x.cast(0, c, 1, 0, at + c, 0), c);
                for (int cx = 0; cx < 10; cx++) {
                    int there = 0;
                    for (int cy = 0; cy < 6; cy++) if (x.partsAt(c, 0, cx, cy, 0) == ALL) there += 10 + cy;
                    due("place " + (at + c) + " in column " + cx, there, (at + c) / 6 == cx ? 10 + (at + c) % 6 : 0);
                }
            }
        }
        for (int kind = 0; kind < 4; kind++) {
            for (int more = -120; more <= 520; more++) {
                int months = more % 100;
                boolean good = more >= 0 && more < 400 && (kind == 2 ? months >= 1 && months <= 12 : months == 0);
                Counted x = new Counted();
                due("kind " + kind + ", more " + more, x.cast(kind, 0, 1, 0, 0, more), good ? 0 : BAD);
                due("its caster", x.about(0, 5), good ? more / 100 : NONE);
            }
        }
    }
}
