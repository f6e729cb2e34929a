/** For each promise of the document: ordinary inputs, the edges that it names, wrong inputs and their order. */
public final class PromisesTest {
    private static final int NONE = -1, BAD = -2, STATE = -3, FULL = -4;
    private static final int LOW = Integer.MIN_VALUE, HIGH = Integer.MAX_VALUE;
    private static int wrong = 0;
    private static int asked = 0;
    private static int promise = 0;

    private static void due(String what, long got, long want) {
        asked++;
        if (got != want) {
            wrong++;
            System.out.println("promise " + promise + ": " + what + ": answered " + got + ", due is " + want);
        }
    }

    public static void main(String[] args) {
        promise = 1; newObject();
        promise = 2; paint();
        promise = 3; cell();
        promise = 4; current();
        promise = 5; wind();
        promise = 6; storm();
        promise = 7; calm();
        promise = 8; cast();
        promise = 9; about();
        promise = 10; parts();
        promise = 10; partsOnTheirWay();
        promise = 10; partsAshore();
        promise = 11; partsAt();
        promise = 12; apart();
        promise = 13; name();
        promise = 14; find();
        promise = 15; clock();
        promise = 16; drop();
        promise = 17; weight();
        promise = 18; judge();
        promise = 19; best();
        promise = 20; cards();
        promise = 21; twin();
        promise = 22; got();
        promise = 23; move();
        promise = 24; fit();
        promise = 25; misfit();
        promise = 26; misses();
        promise = 27; doubt();
        promise = 28; tells();
        promise = 29; feed();
        promise = 30; prize();
        promise = 31; pays();
        promise = 32; purse();
        promise = 33; letters();
        promise = 34; count();
        System.out.println(asked + " answers, " + wrong + " not as due");
        if (wrong != 0) System.exit(1);
    }

    /** The east coast is shore, all of it walked; every month a step east: all parts are found at (9, y). */
    private static Counted coast() {
        Counted x = new Counted();
        for (int y = 0; y < 6; y++) {
            x.paint(9, 9, y, 0, 1);
            x.paint(9, 9, y, 3, 16);
        }
        for (int month = 0; month < 12; month++) x.current(0, month, 44, 33);
        return x;
    }

    private static void newObject() {
        Counted x = new Counted();
        for (int what = 0; what < 5; what++) {
            int sum = 0;
            for (int i = 0; i < 60; i++) sum += x.cell(i / 6, i % 6, what);
            due("nothing is painted, " + what, sum, 0);
        }
        for (int what = 0; what < 8; what++) due("count " + what, x.count(what), 0);
        due("purse", x.purse(999), 0);
        due("misses", x.misses(), 0);
        due("misfit", x.misfit(), 0);
        due("fit", x.fit(2), -1);
        due("shift", x.move(1, 1), 0);
        due("no row", x.calm(47), 0);
        due("no cast", x.about(0, 0), NONE);
        x.cast(3, 0, 1, 0, 20, 0);
        due("no currents, no wind", x.partsAt(0, 12, 3, 2, 0), 1000000);
    }

    private static void paint() {
        Counted x = new Counted();
        due("all of a row", x.paint(0, 9, 0, 3, 16), 10);
        due("some anew", x.paint(3, 5, 0, 3, 0), 3);
        due("those that were other", x.paint(0, 9, 0, 3, 16), 3);
        due("one", x.paint(9, 9, 5, 0, 2), 1);
        due("region", x.paint(0, 0, 0, 1, 2), 1);
        due("sand", x.paint(0, 0, 0, 2, 16), 1);
        due("ice", x.paint(0, 0, 0, 4, 4095), 1);
        due("west of all", x.paint(-1, 0, 0, 0, 0), NONE);
        due("east of all", x.paint(0, 10, 0, 0, 0), NONE);
        due("x0 above x1", x.paint(1, 0, 0, 0, 0), NONE);
        due("south of all", x.paint(0, 0, -1, 0, 0), NONE);
        due("north of all", x.paint(0, 0, 6, 0, 0), NONE);
        due("what below", x.paint(0, 0, 0, -1, 0), NONE);
        due("what above", x.paint(0, 0, 0, 5, 0), NONE);
        due("NONE ahead of BAD", x.paint(0, 0, 6, 0, 9), NONE);
        due("far out", x.paint(LOW, HIGH, 0, 0, 0), NONE);
        for (int what = 0; what < 5; what++) {
            due("below 0", x.paint(0, 0, 0, what, -1), BAD);
            due("above the most", x.paint(0, 0, 0, what, new int[] {3, 3, 17, 17, 4096}[what]), BAD);
        }
        due("nothing changed", x.cell(0, 0, 4), 4095);
        x.cast(0, 0, 1, 0, 6, 0);
        due("as something was cast", x.paint(5, 5, 1, 0, 1), STATE);
        due("though it is so", x.paint(5, 5, 1, 0, 0), STATE);
        due("BAD ahead of STATE", x.paint(5, 5, 1, 0, 3), BAD);
        due("nothing changed", x.cell(5, 1, 0), 0);
        due("other than what 0", x.paint(5, 5, 1, 1, 1), 1);
    }

    private static void cell() {
        Counted x = new Counted();
        int[] most = {2, 2, 16, 16, 4095};
        for (int what = 0; what < 5; what++) {
            x.paint(2, 3, 4, what, most[what]);
            due("west of it", x.cell(1, 4, what), 0);
            due("there", x.cell(2, 4, what), most[what]);
            due("there", x.cell(3, 4, what), most[what]);
            due("east of it", x.cell(4, 4, what), 0);
            due("south of it", x.cell(2, 3, what), 0);
            due("north of it", x.cell(2, 5, what), 0);
        }
        due("x", x.cell(-1, 0, 0), NONE);
        due("x", x.cell(10, 0, 0), NONE);
        due("y", x.cell(0, -1, 0), NONE);
        due("y", x.cell(0, 6, 0), NONE);
        due("what", x.cell(0, 0, -1), NONE);
        due("what", x.cell(0, 0, 5), NONE);
    }

    private static void current() {
        Counted x = new Counted();
        due("region", x.current(-1, 0, 33, 33), NONE);
        due("region", x.current(3, 0, 33, 33), NONE);
        due("month", x.current(0, -1, 33, 33), NONE);
        due("month", x.current(0, 12, 33, 33), NONE);
        due("NONE ahead of BAD", x.current(3, 0, 99, 33), NONE);
        int[] bad = {-1, 7, 10, 21, 32, 43, 54, 65, 67, 70, 76, 77, 99, 100, 133, LOW, HIGH};
        for (int v : bad) {
            due("east " + v, x.current(0, 0, v, 33), BAD);
            due("north " + v, x.current(0, 0, 33, v), BAD);
        }
        int[] good = {0, 6, 11, 33, 36, 45, 56, 66};
        for (int v : good) {
            due("east " + v, x.current(2, 11, v, 33), 0);
            due("north " + v, x.current(2, 11, 33, v), 0);
        }
        x.paint(0, 9, 2, 1, 1);
        x.current(1, 5, 24, 33);
        x.cast(0, 0, 1, 5, 6 * 5 + 2, 0);
        due("from: a step west", x.partsAt(0, 1, 4, 2, 0), 250000);
        due("to: a step east", x.partsAt(0, 1, 6, 2, 0), 250000);
        due("half of both", x.partsAt(0, 1, 5, 2, 0), 500000);
        x.current(1, 5, 33, 13);
        due("told anew: from, north", x.partsAt(0, 1, 5, 0, 0), 250000);
        due("to, north", x.partsAt(0, 1, 5, 2, 0), 250000);
        due("half of both, north", x.partsAt(0, 1, 5, 1, 0), 500000);
        due("a bad one", x.current(1, 5, 33, 43), BAD);
        due("changes nothing", x.partsAt(0, 1, 5, 1, 0), 500000);
        x.current(1, 6, 44, 33);
        due("another month of the year", x.partsAt(0, 1, 5, 1, 0), 500000);
        x.current(0, 5, 66, 66);
        due("another region", x.partsAt(0, 1, 5, 1, 0), 500000);
    }

    private static void wind() {
        Counted x = new Counted();
        due("month", x.wind(-1, 0, 0), NONE);
        due("month", x.wind(12, 0, 0), NONE);
        due("NONE ahead of BAD", x.wind(12, 9, 0), NONE);
        due("east", x.wind(0, -4, 0), BAD);
        due("east", x.wind(0, 4, 0), BAD);
        due("north", x.wind(0, 0, -4), BAD);
        due("north", x.wind(0, 0, 4), BAD);
        due("edges", x.wind(11, 3, -3), 0);
        due("edges", x.wind(0, -3, 3), 0);
        due("told anew", x.wind(0, 3, -2), 0);
        int at = 6 * 2 + 4;
        x.cast(0, 0, 1, 0, at, 0);
        x.cast(1, 1, 1, 12, at, 0);
        x.cast(2, 2, 1, 24, at, 12);
        x.cast(3, 3, 1, 36, at, 0);
        due("no wind for a flat one", x.partsAt(0, 1, 2, 4, 0), 1000000);
        due("wind for a bottle", x.partsAt(1, 1, 5, 2, 0), 1000000);
        due("half, cut, for a weighted one", x.partsAt(2, 1, 3, 3, 0), 1000000);
        due("twice for a sail", x.partsAt(3, 1, 8, 0, 0), 1000000);
        x.wind(0, -3, 1);
        due("half, cut towards 0", x.partsAt(2, 1, 1, 4, 0), 1000000);
        due("off to the west", x.partsAt(1, 1, 2, 4, 0), 0);
        due("off to the west", x.parts(1, 1, 4), 1000000);
    }

    private static void storm() {
        Counted x = new Counted();
        due("month", x.storm(-1, 0, 0), NONE);
        due("month", x.storm(48, 0, 0), NONE);
        due("NONE ahead of BAD", x.storm(48, 4, 0), NONE);
        due("east", x.storm(0, 4, 0), BAD);
        due("east", x.storm(0, -4, 0), BAD);
        due("north", x.storm(0, 0, 4), BAD);
        due("north", x.storm(0, 0, -4), BAD);
        due("BAD changes nothing", x.storm(0, -3, 3), 0);
        due("there was one", x.storm(0, 2, 1), 1);
        due("the last", x.storm(47, 1, 0), 0);
        x.wind(0, 0, 1);
        x.wind(11, 0, 1);
        x.cast(1, 0, 1, 0, 12, 0);
        x.cast(1, 1, 1, 12, 12, 0);
        x.cast(1, 2, 1, 47, 12, 0);
        due("a row tells it", x.partsAt(0, 1, 4, 1, 0), 1000000);
        due("that of its month alone", x.partsAt(1, 1, 2, 1, 0), 1000000);
        due("the row of month 47", x.partsAt(2, 1, 3, 0, 0), 1000000);
        due("month 48: the row of month 0", x.partsAt(2, 2, 5, 1, 0), 1000000);
        x.storm(1, 0, 0);
        x.wind(1, 3, 3);
        due("a row of no wind is one", x.partsAt(2, 3, 5, 1, 0), 1000000);
    }

    private static void calm() {
        Counted x = new Counted();
        due("month", x.calm(-1), NONE);
        due("month", x.calm(48), NONE);
        due("none there", x.calm(0), 0);
        x.storm(0, 1, 0);
        x.storm(47, 1, 0);
        x.wind(0, 0, 2);
        x.cast(1, 0, 1, 0, 12, 0);
        due("by the row", x.partsAt(0, 1, 3, 0, 0), 1000000);
        due("one there", x.calm(0), 1);
        due("by the wind of the month of the year", x.partsAt(0, 1, 2, 2, 0), 1000000);
        due("no more", x.calm(0), 0);
        due("the other stays", x.calm(47), 1);
        due("told again", x.storm(0, 0, 0), 0);
    }

    private static void cast() {
        Counted x = new Counted();
        x.paint(1, 1, 0, 0, 1);
        x.paint(2, 2, 0, 0, 2);
        due("place", x.cast(0, 0, 1, 0, -1, 0), NONE);
        due("place", x.cast(0, 0, 1, 0, 60, 0), NONE);
        due("month", x.cast(0, 0, 1, -1, 0, 0), NONE);
        due("month", x.cast(0, 0, 1, 48, 0, 0), NONE);
        due("NONE ahead of BAD", x.cast(9, 0, 1, 48, 0, 0), NONE);
        due("kind", x.cast(-1, 0, 1, 0, 0, 0), BAD);
        due("kind", x.cast(4, 0, 1, 0, 0, 0), BAD);
        due("first", x.cast(0, -1, 1, 0, 0, 0), BAD);
        due("first", x.cast(0, 10000, 1, 0, 0, 0), BAD);
        due("last", x.cast(0, 9999, 2, 0, 0, 0), BAD);
        due("last", x.cast(0, 9001, 1000, 0, 0, 0), BAD);
        due("first and n wrap around", x.cast(0, HIGH, HIGH, 0, 0, 0), BAD);
        due("n", x.cast(0, 0, 0, 0, 0, 0), BAD);
        due("n", x.cast(0, 0, -1, 0, 0, 0), BAD);
        due("n", x.cast(0, 0, 1001, 0, 0, 0), BAD);
        due("caster", x.cast(0, 0, 1, 0, 0, 400), BAD);
        due("caster", x.cast(0, 0, 1, 0, 0, -100), BAD);
        due("more", x.cast(0, 0, 1, 0, 0, -1), BAD);
        due("more", x.cast(0, 0, 1, 0, 0, LOW), BAD);
        due("months of a flat one", x.cast(0, 0, 1, 0, 0, 1), BAD);
        due("months of a bottle", x.cast(1, 0, 1, 0, 0, 101), BAD);
        due("months of a sail", x.cast(3, 0, 1, 0, 0, 212), BAD);
        due("no months of a weighted one", x.cast(2, 0, 1, 0, 0, 300), BAD);
        due("months of a weighted one", x.cast(2, 0, 1, 0, 0, 313), BAD);
        due("BAD ahead of STATE", x.cast(0, 0, 0, 0, 6, 0), BAD);
        due("shore", x.cast(0, 0, 1, 0, 6, 0), STATE);
        due("land", x.cast(0, 0, 1, 0, 12, 0), STATE);
        due("nothing was cast", x.count(0), 0);
        due("the first", x.cast(0, 100, 10, 0, 0, 0), 0);
        due("its first number", x.cast(0, 100, 1, 0, 0, 0), STATE);
        due("its last number", x.cast(0, 109, 1, 0, 0, 0), STATE);
        due("all of its numbers", x.cast(0, 99, 12, 0, 0, 0), STATE);
        due("up to it", x.cast(0, 91, 10, 0, 0, 0), STATE);
        due("ahead of it", x.cast(0, 90, 10, 47, 59, 0), 1);
        due("behind it", x.cast(2, 110, 1000, 0, 0, 12), 2);
        due("another caster", x.cast(2, 100, 10, 0, 0, 301), 3);
        due("the highest numbers", x.cast(3, 9000, 1000, 0, 0, 0), 4);
        due("full", x.cast(0, 5000, 1, 0, 0, 0), FULL);
        due("STATE ahead of FULL", x.cast(0, 9999, 1, 0, 0, 0), STATE);
        due("STATE ahead of FULL", x.cast(0, 5000, 1, 0, 6, 0), STATE);
        due("BAD ahead of FULL", x.cast(4, 5000, 1, 0, 0, 0), BAD);
        due("five", x.count(0), 5);
    }

    private static void about() {
        Counted x = new Counted();
        due("none", x.about(0, 0), NONE);
        x.cast(2, 77, 23, 40, 59, 307);
        x.cast(3, 0, 1000, 0, 0, 100);
        int[] first = {2, 77, 23, 40, 59, 3};
        int[] second = {3, 0, 1000, 0, 0, 1};
        for (int what = 0; what < 6; what++) {
            due("what " + what, x.about(0, what), first[what]);
            due("what " + what, x.about(1, what), second[what]);
        }
        due("what", x.about(0, -1), NONE);
        due("what", x.about(0, 6), NONE);
        due("cast", x.about(-1, 0), NONE);
        due("cast", x.about(2, 0), NONE);
    }

    private static void parts() {
        Counted x = new Counted();
        due("no cast", x.parts(0, 0, 0), NONE);
        x.cast(2, 0, 1, 0, 0, 2);
        due("cast", x.parts(-1, 0, 0), NONE);
        due("cast", x.parts(1, 0, 0), NONE);
        due("what", x.parts(0, 0, -1), NONE);
        due("what", x.parts(0, 0, 6), NONE);
        due("NONE ahead of BAD", x.parts(0, 13, 6), NONE);
        due("months", x.parts(0, -1, 0), BAD);
        due("months", x.parts(0, 13, 0), BAD);
        due("at first", x.parts(0, 0, 0), 1000000);
        due("behind 2 months it is there", x.parts(0, 2, 0), 1000000);
        due("behind 3 it is sunk", x.parts(0, 3, 0), 0);
        due("sunk", x.parts(0, 3, 5), 1000000);
        due("sunk for good", x.parts(0, 12, 5), 1000000);
        x.current(0, 1, 24, 33);
        due("the middle stays, with half of those west lost", x.parts(0, 2, 4), 250000);
        due("the rest sinks", x.parts(0, 12, 5), 750000);
        Counted odd = new Counted();
        odd.current(0, 0, 35, 33);
        odd.current(0, 1, 35, 33);
        odd.cast(0, 0, 1, 0, 0, 0);
        for (int month = 0; month <= 12; month++) {
            long all = 0;
            for (int what = 0; what < 6; what++) all += odd.parts(0, month, what);
            due("never lost count of", all, 1000000);
        }
        due("0 and 0", odd.partsAt(0, 2, 0, 0, 0), 62500);
        due("0 and 1, or 1 and 0", odd.partsAt(0, 2, 1, 0, 0), 250000);
        due("2 and 2", odd.partsAt(0, 2, 4, 0, 0), 62500);
    }

    private static Counted cross(int east, int north, int kind) {
        Counted x = new Counted();
        x.paint(5, 5, 2, 0, 0);
        x.paint(7, 7, 2, 0, 2);
        x.paint(3, 3, 3, 0, 1);
        x.wind(0, east, north);
        x.cast(kind, 0, 1, 0, 6 * 5 + 2, 0);
        return x;
    }

    private static void partsOnTheirWay() {
        due("ahead of land", cross(2, 0, 1).partsAt(0, 1, 6, 2, 0), 1000000);
        due("ahead of land it stays, no steps north then", cross(3, 2, 1).partsAt(0, 1, 6, 2, 0), 1000000);
        due("over water only to the north", cross(0, 3, 1).partsAt(0, 1, 5, 5, 0), 1000000);
        due("beyond the north it is lost", cross(0, 2, 3).parts(0, 1, 4), 1000000);
        due("beyond the south it is lost", cross(0, -3, 1).parts(0, 1, 4), 1000000);
        due("beyond the west it is lost", cross(-3, 0, 3).parts(0, 1, 4), 1000000);
        due("east ahead of north, onto the shore", cross(-2, 1, 1).partsAt(0, 1, 3, 3, 1), 1000000);
        due("east ahead of north, past the shore", cross(-3, 1, 1).partsAt(0, 1, 2, 3, 0), 1000000);
        due("at the shore it ends", cross(-2, 3, 1).partsAt(0, 1, 3, 3, 1), 1000000);
        Counted x = cross(1, 0, 1);
        x.paint(5, 5, 2, 4, 1);
        due("ice in the month", x.partsAt(0, 1, 5, 2, 0), 1000000);
        x.paint(5, 5, 2, 4, 4094);
        due("ice in all other months", x.partsAt(0, 1, 6, 2, 0), 1000000);
        due("a shift", x.move(0, -1), 0);
        due("comes to the east of it", x.partsAt(0, 1, 5, 2, 0), 1000000);
        x.paint(5, 5, 2, 1, 1);
        due("that of its region alone", x.partsAt(0, 1, 6, 2, 0), 1000000);
        Counted halves = new Counted();
        halves.cast(0, 0, 1, 0, 6 * 5 + 3, 0);
        int[][] spans = {{3, -1}, {14, 0}, {5, 0}, {36, 1}, {23, 0}, {34, 0}};
        for (int[] span : spans) {
            halves.current(0, 0, span[0], 33);
            due("half of " + span[0], halves.partsAt(0, 1, 5 + span[1], 3, 0) >= 500000 ? 1 : 0, 1);
        }
        halves.current(0, 0, 33, 3);
        due("half of both, north", halves.partsAt(0, 1, 5, 2, 0), 500000);
        halves.current(0, 0, 24, 24);
        due("from goes west and south", halves.partsAt(0, 1, 4, 2, 0), 250000);
        due("to goes east and north", halves.partsAt(0, 1, 6, 4, 0), 250000);
    }

    private static void partsAshore() {
        Counted x = new Counted();
        x.paint(6, 6, 2, 0, 1);
        x.paint(6, 6, 2, 3, 3);
        x.paint(6, 6, 2, 2, 5);
        x.current(0, 0, 44, 33);
        x.cast(0, 0, 1, 0, 6 * 5 + 2, 0);
        due("found", x.parts(0, 1, 2), 187500);
        due("buried of the others", x.parts(0, 1, 3), 253906);
        due("ashore", x.parts(0, 1, 1), 558594);
        due("found in all", x.parts(0, 2, 2), 187500 + 104736);
        due("buried in all", x.parts(0, 2, 3), 253906 + 141830);
        due("ashore", x.parts(0, 2, 1), 312028);
        x.paint(6, 6, 2, 3, 16);
        due("all are found", x.parts(0, 1, 2), 1000000);
        x.paint(6, 6, 2, 3, 0);
        x.paint(6, 6, 2, 2, 16);
        due("all are buried", x.parts(0, 1, 3), 1000000);
        x.paint(5, 5, 2, 3, 16);
        x.paint(5, 5, 2, 2, 16);
        x.current(0, 0, 33, 33);
        due("none in water is found or buried", x.parts(0, 12, 0), 1000000);
        Counted corner = new Counted();
        corner.paint(0, 0, 0, 0, 1);
        corner.paint(0, 0, 0, 3, 16);
        corner.wind(0, -1, 0);
        corner.cast(1, 0, 1, 0, 6, 0);
        due("in the first cell of all", corner.partsAt(0, 1, 0, 0, 2), 1000000);
        due("in the first cell of all", corner.tells(1, 0, 6, 0), 2 * 100000 - 100000);
        Counted sinking = new Counted();
        sinking.paint(6, 6, 2, 0, 1);
        sinking.current(0, 0, 34, 33);
        sinking.cast(2, 0, 1, 0, 6 * 5 + 2, 1);
        due("those ashore do not sink", sinking.parts(0, 12, 1), 250000);
        due("those in water do", sinking.parts(0, 12, 5), 750000);
    }

    private static void partsAt() {
        Counted x = coast();
        x.paint(9, 9, 2, 3, 8);
        x.cast(0, 0, 1, 0, 6 * 7 + 2, 0);
        due("cast", x.partsAt(-1, 0, 0, 0, 0), NONE);
        due("cast", x.partsAt(1, 0, 0, 0, 0), NONE);
        due("x", x.partsAt(0, 0, -1, 0, 0), NONE);
        due("x", x.partsAt(0, 0, 10, 0, 0), NONE);
        due("y", x.partsAt(0, 0, 0, -1, 0), NONE);
        due("y", x.partsAt(0, 0, 0, 6, 0), NONE);
        due("what", x.partsAt(0, 0, 0, 0, -1), NONE);
        due("what", x.partsAt(0, 0, 0, 0, 3), NONE);
        due("NONE ahead of BAD", x.partsAt(0, 13, 10, 0, 0), NONE);
        due("months", x.partsAt(0, -1, 0, 0, 0), BAD);
        due("months", x.partsAt(0, 13, 0, 0, 0), BAD);
        due("at first", x.partsAt(0, 0, 7, 2, 0), 1000000);
        due("a month on", x.partsAt(0, 1, 8, 2, 0), 1000000);
        due("gone from there", x.partsAt(0, 1, 7, 2, 0), 0);
        due("ashore", x.partsAt(0, 2, 9, 2, 1), 500000);
        due("found", x.partsAt(0, 2, 9, 2, 2), 500000);
        due("found in all", x.partsAt(0, 3, 9, 2, 2), 750000);
        due("elsewhere", x.partsAt(0, 3, 9, 3, 2), 0);
        due("not in water", x.partsAt(0, 3, 9, 2, 0), 0);
    }

    private static void apart() {
        Counted x = coast();
        x.cast(0, 0, 1, 0, 6 * 2 + 2, 0);
        x.cast(0, 1, 1, 20, 6 * 2 + 2, 0);
        x.cast(1, 2, 1, 0, 6 * 2 + 2, 0);
        x.cast(0, 3, 1, 0, 6 * 3 + 2, 0);
        due("c", x.apart(-1, 0), NONE);
        due("c", x.apart(4, 0), NONE);
        due("d", x.apart(0, -1), NONE);
        due("d", x.apart(0, 4), NONE);
        due("c is d", x.apart(1, 1), NONE);
        due("apart at first", x.apart(0, 3), 0);
        due("together until all are found", x.apart(0, 1), 7);
        x.wind(2, 0, 1);
        due("wind takes one off", x.apart(0, 2), 3);
        due("either way", x.apart(2, 0), 3);
        x.paint(9, 9, 2, 3, 0);
        due("ashore counts", x.apart(0, 1), STATE);
        x.paint(9, 9, 2, 2, 16);
        due("buried does not", x.apart(0, 1), 7);
        for (int month = 0; month < 12; month++) x.current(0, month, 33, 33);
        due("never", x.apart(0, 1), STATE);
        Counted first = new Counted();
        first.cast(0, 0, 1, 0, 0, 0);
        first.cast(0, 1, 1, 0, 0, 0);
        due("in the first cell of all", first.apart(0, 1), STATE);
        Counted last = new Counted();
        last.cast(0, 0, 1, 0, 59, 0);
        last.cast(0, 1, 1, 0, 59, 0);
        due("in the last cell of all", last.apart(0, 1), STATE);
        x.current(0, 11, 44, 33);
        x.wind(2, 0, 0);
        x.storm(11, 3, 0);
        due("just within 12", x.apart(0, 2), 12);
    }

    private static void name() {
        Counted x = new Counted();
        due("x1", x.name(10, 0, 0), NONE);
        due("x1", x.name(99, 0, 0), NONE);
        due("x0", x.name(1000, 0, 0), NONE);
        due("x", x.name(-1, 0, 0), NONE);
        due("x", x.name(-100, 0, 0), NONE);
        due("x", x.name(LOW, 0, 0), NONE);
        due("x", x.name(HIGH, 0, 0), NONE);
        due("y1", x.name(0, 6, 0), NONE);
        due("y0", x.name(0, 600, 0), NONE);
        due("y", x.name(0, -1, 0), NONE);
        due("NONE ahead of BAD", x.name(100, 6, 0), NONE);
        due("NONE ahead of BAD", x.name(1000, 0, 6), NONE);
        due("x0 above x1", x.name(908, 5, 0), BAD);
        due("y0 above y1", x.name(9, 504, 0), BAD);
        due("tongue", x.name(9, 5, -1), BAD);
        due("tongue", x.name(9, 5, 6), BAD);
        due("all", x.name(9, 5, 5), 0);
        due("a corner", x.name(909, 505, 0), 1);
        for (int n = 2; n < 6; n++) due("likewise", x.name(102, 103, 1), n);
        due("full", x.name(0, 0, 0), FULL);
        due("BAD ahead of FULL", x.name(0, 0, 6), BAD);
        due("six", x.count(1), 6);
    }

    private static void find() {
        Counted x = new Counted();
        due("no name", x.find(0, 0, 0, 0, 0), NONE);
        x.name(9, 5, 0);
        due("name", x.find(0, 0, 1, 0, 0), NONE);
        due("name", x.find(0, 0, -1, 0, 0), NONE);
        due("caster", x.find(0, -1, 0, 0, 0), NONE);
        due("caster", x.find(0, 4, 0, 0, 0), NONE);
        due("NONE ahead of BAD", x.find(-1, 4, 0, 0, 0), NONE);
        int[] bad = {-1, 0xB, 0xB0, 0xB00, 0xB000, 0xF, 0xFFFF, 0x10000, LOW, HIGH};
        for (int row : bad) due("row " + row, x.find(row, 0, 0, 0, 0), BAD);
        due("from", x.find(0, 0, 0, -1, 0), BAD);
        due("to", x.find(0, 0, 0, 0, 61), BAD);
        due("from above to", x.find(0, 0, 0, 5, 4), BAD);
        due("from above to", x.find(0, 0, 0, 61, 60), BAD);
        due("nothing was told", x.count(2), 0);
        due("the first", x.find(0xAAAA, 3, 0, 0, 60), 0);
        due("the next", x.find(0x9999, 0, 0, 60, 60), 1);
        for (int f = 2; f < 16; f++) due("another", x.find(f % 10, 0, 0, 0, 0), f);
        due("full", x.find(0, 0, 0, 0, 0), FULL);
        due("BAD ahead of FULL", x.find(0, 0, 0, 1, 0), BAD);
        due("NONE ahead of FULL", x.find(0, 0, 1, 0, 0), NONE);
        due("sixteen", x.count(2), 16);
    }

    private static void clock() {
        Counted x = new Counted();
        due("below 0", x.clock(-1), BAD);
        due("above 999", x.clock(1000), BAD);
        due("on", x.clock(5), 0);
        due("as it was", x.clock(5), 5);
        due("back", x.clock(4), BAD);
        due("it stays", x.count(4), 5);
        due("to the end", x.clock(999), 5);
        due("there", x.clock(999), 999);
    }

    private static void drop() {
        Counted x = new Counted();
        due("no find", x.drop(0, 0), NONE);
        x.name(0, 0, 0);
        x.find(0, 0, 0, 0, 0);
        due("f", x.drop(-1, 0), NONE);
        due("f", x.drop(1, 0), NONE);
        due("NONE ahead of BAD", x.drop(1, 2), NONE);
        due("is", x.drop(0, -1), BAD);
        due("is", x.drop(0, 2), BAD);
        due("not out", x.drop(0, 0), 0);
        due("out", x.drop(0, 1), 0);
        due("was out", x.drop(0, 1), 1);
        due("counted", x.count(7), 1);
        due("not out again", x.drop(0, 0), 1);
        due("not out again", x.count(7), 0);
    }

    /** Casts 0 (numbers 1200 .. 1299, month 3) and 1 (likewise of caster 1, month 12), both two cells off the coast. */
    private static Counted twoCasts() {
        Counted x = coast();
        x.paint(9, 9, 2, 3, 8);
        x.cast(0, 1200, 100, 3, 6 * 7 + 2, 0);
        x.cast(1, 1200, 100, 12, 6 * 7 + 2, 100);
        x.name(909, 5, 4);
        x.name(909, 303, 1);
        return x;
    }

    private static void weight() {
        Counted x = twoCasts();
        due("f", x.weight(0, 0), NONE);
        x.find(0x1234, 0, 0, 0, 60);
        x.find(0x1234, 0, 0, 0, 3);
        x.find(0x1234, 0, 0, 4, 4);
        x.find(0x1234, 0, 0, 5, 60);
        x.find(0x1234, 0, 1, 0, 60);
        x.find(0x1334, 0, 0, 0, 60);
        x.find(0x1234, 1, 0, 14, 15);
        x.find(0x1234, 0, 0, 14, 60);
        x.find(0x1234, 0, 0, 15, 60);
        due("f", x.weight(-1, 0), NONE);
        due("f", x.weight(9, 0), NONE);
        due("c", x.weight(0, -1), NONE);
        due("c", x.weight(0, 2), NONE);
        due("all months", x.weight(0, 0), 999511);
        due("too early", x.weight(1, 0), 0);
        due("a month", x.weight(2, 0), 500000);
        due("those behind it", x.weight(3, 0), 499511);
        due("another place", x.weight(4, 0), 0);
        due("another number", x.weight(5, 0), 0);
        due("another caster", x.weight(0, 1), 0);
        due("of the other cast", x.weight(6, 1), 375000);
        due("the last of its months", x.weight(7, 0), 488);
        due("its months are over", x.weight(8, 0), 0);
        x.wind(2, 0, 1);
        due("wind is no matter to a flat one", x.weight(0, 0), 999511);
        x.wind(0, 0, 1);
        due("wind takes the other to where all is walked", x.weight(6, 1), 0);
        due("at once", x.weight(6, 0), 0);
        x.paint(9, 9, 2, 3, 4);
        due("told anew", x.weight(2, 0), 250000);
        x.move(0, -1);
        due("a shift", x.weight(0, 0), 0);
    }

    private static void judge() {
        Counted x = twoCasts();
        due("f", x.judge(0), NONE);
        x.find(0x1234, 0, 0, 0, 60);
        x.find(0x1234, 0, 0, 0, 3);
        x.find(0x1300, 0, 0, 0, 60);
        x.find(0x1234, 2, 0, 0, 60);
        x.find(0xAAAA, 0, 0, 0, 60);
        due("f", x.judge(-1), NONE);
        due("f", x.judge(5), NONE);
        due("sure", x.judge(0), 2);
        due("fake", x.judge(1), 0);
        due("none fits", x.judge(2), 3);
        due("none fits", x.judge(3), 3);
        due("sure", x.judge(4), 2);
        x.cast(0, 5000, 1, 3, 6 * 7 + 2, 0);
        due("several", x.judge(4), 1);
        due("sure still", x.judge(0), 2);
        x.drop(0, 1);
        due("out is no matter", x.judge(0), 2);
        x.move(0, -1);
        due("fake", x.judge(4), 0);
        Counted early = coast();
        early.name(909, 5, 0);
        early.find(0x0003, 2, 0, 0, 60);
        due("ahead of all casts", early.judge(0), 3);
        early.cast(0, 0, 10, 0, 6 * 7, 200);
        due("told ahead of the cast", early.judge(0), 2);
        due("told ahead of the cast", early.cards(0), 1);
        onePart();
    }

    /** A quarter of what is in a cell goes a step east each month: 15 parts come to the shore in the eighth. */
    private static void onePart() {
        Counted x = new Counted();
        for (int month = 0; month < 12; month++) x.current(0, month, 34, 33);
        x.paint(8, 8, 0, 0, 1);
        x.paint(8, 8, 0, 3, 2);
        x.name(8, 0, 0);
        x.cast(0, 0, 1, 10, 0, 0);
        x.find(0, 0, 0, 17, 17);
        x.find(0, 0, 0, 16, 16);
        due("ashore", x.partsAt(0, 8, 8, 0, 1), 14);
        due("one part", x.weight(0, 0), 1);
        due("one part makes it sure", x.judge(0), 2);
        due("one part makes it best", x.best(0), 0);
        due("none a month ahead", x.judge(1), 0);
    }

    private static void best() {
        Counted x = coast();
        x.paint(9, 9, 2, 3, 8);
        x.name(909, 202, 0);
        x.cast(0, 1000, 10, 3, 6 * 3 + 2, 0);
        x.find(0x100A, 0, 0, 0, 60);
        x.find(0x2000, 0, 0, 0, 60);
        x.find(0x1AAA, 0, 0, 0, 60);
        x.find(0xAAAA, 0, 0, 0, 8);
        due("f", x.best(-1), NONE);
        due("f", x.best(4), NONE);
        due("the one", x.best(0), 0);
        due("none", x.best(1), NONE);
        x.cast(0, 1010, 10, 3, 6 * 4 + 2, 0);
        due("a greater one", x.best(2), 1);
        x.cast(0, 1020, 10, 3, 6 * 4 + 2, 0);
        due("the least of several", x.best(2), 1);
        due("without a weight", x.best(3), 1);
        due("not all fit", x.best(0), 0);
    }

    private static void cards() {
        Counted x = coast();
        x.name(909, 5, 0);
        x.cast(0, 995, 110, 0, 6 * 7, 0);
        int[] rows = {0x0995, 0x1104, 0x1105, 0x0994, 0x0AAA, 0xAA99, 0xAAA5, 0xAAAA, 0x10A0, 0xA99A, 0x1AA4};
        int[] many = {1, 1, 0, 0, 5, 2, 11, 110, 10, 5, 11};
        for (int row : rows) x.find(row, 0, 0, 0, 60);
        for (int f = 0; f < rows.length; f++) due("row " + Integer.toHexString(rows[f]), x.cards(f), many[f]);
        due("f", x.cards(-1), NONE);
        due("f", x.cards(rows.length), NONE);
        x.find(0xAAAA, 0, 0, 0, 0);
        due("no best", x.cards(rows.length), 0);
        x.cast(0, 3, 2, 0, 6 * 7, 0);
        due("the greatest, the least of several", x.cards(7), 110);
    }

    private static void twin() {
        Counted x = new Counted();
        x.name(0, 0, 0);
        x.name(1, 0, 0);
        x.find(0x1234, 0, 0, 0, 0);
        x.find(0x123A, 0, 0, 0, 0);
        x.find(0x123A, 0, 0, 0, 0);
        x.find(0x1234, 1, 0, 0, 0);
        x.find(0x1234, 0, 1, 5, 9);
        x.find(0x1234, 0, 0, 0, 0);
        due("f", x.twin(-1), NONE);
        due("f", x.twin(6), NONE);
        due("the first", x.twin(0), NONE);
        due("not all read", x.twin(2), NONE);
        due("another caster", x.twin(3), NONE);
        due("alike", x.twin(4), 0);
        due("the first of several", x.twin(5), 0);
        x.drop(0, 1);
        due("that is out", x.twin(4), NONE);
        due("the next one", x.twin(5), 4);
        x.drop(5, 1);
        due("of one that is out", x.twin(5), 4);
        x.drop(0, 0);
        due("not out any more", x.twin(5), 0);
    }

    private static void got() {
        Counted x = twoCasts();
        x.find(0x1201, 0, 0, 0, 60);
        x.find(0x1201, 0, 0, 0, 60);
        x.clock(10);
        x.find(0x1202, 0, 0, 0, 60);
        x.find(0x1202, 1, 0, 0, 60);
        x.find(0x1203, 0, 1, 0, 60);
        x.find(0x1203, 0, 0, 0, 0);
        due("c", x.got(-1, 0, 0), NONE);
        due("c", x.got(2, 0, 0), NONE);
        due("name", x.got(0, -2, 0), NONE);
        due("name", x.got(0, 2, 0), NONE);
        due("NONE ahead of BAD", x.got(0, 2, -1), NONE);
        due("as of", x.got(0, 0, -1), BAD);
        due("as of", x.got(0, 0, 1000), BAD);
        due("ahead of 10, no twin", x.got(0, -1, 9), 1);
        due("as of 10", x.got(0, -1, 10), 2);
        due("the other", x.got(1, -1, 999), 1);
        due("in a name", x.got(0, 0, 999), 2);
        due("in another", x.got(0, 1, 999), 0);
        x.drop(2, 1);
        due("out", x.got(0, -1, 10), 1);
        x.drop(0, 1);
        due("the twin comes up", x.got(0, -1, 9), 1);
        x.cast(0, 8888, 1, 3, 6 * 7 + 3, 0);
        x.find(0xAAAA, 0, 0, 0, 60);
        due("not sure", x.got(0, -1, 999), 1);
        due("not sure", x.got(2, -1, 999), 0);
    }

    private static void move() {
        Counted x = new Counted();
        due("region", x.move(-1, 0), STATE);
        due("region", x.move(3, 0), STATE);
        due("STATE ahead of BAD", x.move(3, 2), STATE);
        due("v", x.move(0, -2), BAD);
        due("v", x.move(0, 2), BAD);
        due("west", x.move(0, -1), 0);
        due("it was", x.move(0, 1), -1);
        due("another", x.move(2, 1), 0);
        due("it was", x.move(0, 0), 1);
        due("the other stays", x.move(2, 0), 1);
    }

    /** With a shift of 0 in region 0 all of the 4 cards go to (9, 3), with 1 to (9, 2); with -1 they never land. */
    private static Counted fitting() {
        Counted x = new Counted();
        for (int y = 0; y < 6; y++) {
            x.paint(9, 9, y, 0, 1);
            x.paint(9, 9, y, 3, 16);
        }
        x.current(0, 0, 44, 33);
        x.current(0, 1, 33, 44);
        x.current(0, 2, 44, 33);
        x.current(0, 3, 33, 33);
        x.paint(0, 9, 2, 4, 4095 & ~7);
        x.cast(0, 1000, 4, 0, 6 * 7 + 2, 0);
        return x;
    }

    private static void fit() {
        Counted x = new Counted();
        due("region", x.fit(-1), STATE);
        due("region", x.fit(3), STATE);
        due("the first of all", x.fit(0), -1);
        fitByRegions();
        sureByToldShifts();
    }

    /**
     * Parts go through regions 0, 1, 2 in turn. A name of (9, 3) and a find there (of 1 card): the least is missed
     * where the most come there.
     */
    private static Counted threeRegions() {
        Counted x = new Counted();
        for (int y = 0; y < 6; y++) {
            x.paint(9, 9, y, 0, 1);
            x.paint(9, 9, y, 3, 16);
            x.paint(3, 5, y, 1, 1);
            x.paint(6, 9, y, 1, 2);
        }
        return x;
    }

    private static void fitByRegions() {
        Counted x = threeRegions();
        x.name(909, 3, 0);
        x.cast(0, 7, 1, 0, 6 * 8 + 3, 0);
        due("nothing got: no shift that lands it", x.fit(2), -1);
        x.move(2, 1);
        x.find(0x0007, 0, 0, 0, 60);
        due("sure by the shifts told", x.judge(0), 2);
        due("one got: the shift that lands it", x.fit(2), 1);
        due("it does not hang on region 0", x.fit(0), -1);
        due("nor on region 1", x.fit(1), -1);
        x.move(2, 0);
        due("not sure any more", x.judge(0), 0);
        due("nothing got", x.fit(2), -1);
        Counted two = threeRegions();
        two.name(909, 3, 0);
        two.cast(0, 7, 1, 0, 6 * 2 + 3, 0);
        two.move(0, 1);
        two.move(1, 1);
        two.move(2, 1);
        two.find(0x0007, 0, 0, 0, 60);
        due("landed with all east", two.judge(0), 2);
        due("all of them east", two.fit(0), 1);
        due("all of them east", two.fit(1), 1);
        due("all of them east", two.fit(2), 1);
        due("nothing missed", two.misfit(), 0);
        orderOfShifts();
        firstOfAll();
    }

    /** What lands with the shifts that come first: -1 of all regions, or 0 of region 2 alone. */
    private static void firstOfAll() {
        Counted x = new Counted();
        x.paint(0, 0, 3, 0, 1);
        x.paint(0, 0, 3, 3, 16);
        x.paint(1, 9, 3, 1, 2);
        x.name(0, 303, 0);
        x.cast(0, 0, 1, 0, 6 + 3, 0);
        due("0 of region 2 does not land it", x.fit(2), 0);
        due("the first of all else", x.fit(0), -1);
        due("nothing missed", x.misfit(), 0);
        x.move(2, -1);
        due("it lands", x.misses(), 1000000);
        x.find(0, 0, 0, 0, 60);
        due("-1 of region 2 lands it", x.fit(2), -1);
        due("nothing missed", x.misfit(), 0);
    }

    /** Shifts 0 and 1, 1 and 0, 1 and 1 of regions 0 and 1 all land it: those with the least of region 0 come first. */
    private static void orderOfShifts() {
        Counted x = new Counted();
        x.paint(7, 7, 0, 0, 1);
        x.paint(7, 7, 0, 3, 16);
        x.paint(5, 6, 0, 1, 1);
        x.paint(0, 4, 0, 4, 4094);
        x.paint(5, 6, 0, 4, 4093);
        x.current(0, 0, 44, 33);
        x.current(1, 1, 44, 33);
        x.name(707, 0, 0);
        x.cast(0, 0, 1, 0, 6 * 4, 0);
        x.move(0, 1);
        x.find(0, 0, 0, 0, 60);
        due("landed", x.judge(0), 2);
        due("nothing missed", x.misses(), 0);
        due("the least of region 0", x.fit(0), 0);
        due("then of region 1", x.fit(1), 1);
        due("then of region 2", x.fit(2), -1);
    }

    private static void sureByToldShifts() {
        Counted x = fitting();
        x.name(909, 202, 0);
        x.name(909, 303, 0);
        for (int i = 0; i < 4; i++) x.find(0x1000 + i, 0, 1, 0, 60);
        due("landed in the other name", x.judge(0), 2);
        due("and so it fits", x.fit(0), 0);
        due("nothing missed", x.misfit(), 0);
        x.move(0, 1);
        due("not landed there", x.judge(0), 0);
        due("nothing got, so nothing may land", x.fit(0), -1);
    }

    private static void misfit() {
        Counted x = fitting();
        due("no names", x.misfit(), 0);
        x.name(909, 202, 0);
        due("none lands with -1", x.misfit(), 0);
        x.name(909, 303, 0);
        x.find(0x1000, 0, 1, 0, 60);
        due("one got of 4: none landed is off by 1000, all by 3000", x.misfit(), 1000L * 1000);
        x.find(0x1001, 0, 1, 0, 60);
        due("two got of 4", x.misfit(), 2000L * 2000);
        due("the first of both", x.fit(0), -1);
        x.find(0x1002, 0, 1, 0, 60);
        due("three got of 4", x.misfit(), 1000L * 1000);
        due("it turns", x.fit(0), 0);
        due("asked again", x.misfit(), 1000L * 1000);
    }

    private static void misses() {
        Counted x = twoCasts();
        due("99951 and 99951 (cut), in one name", x.misses(), 2 * 99951L * 99951L);
        x.find(0x1201, 0, 0, 0, 60);
        due("one got", x.misses(), 98951L * 98951L + 99951L * 99951L);
        x.name(9, 5, 0);
        due("a name more", x.misses(), 98951L * 98951L + 3 * 99951L * 99951L);
        x.drop(0, 1);
        due("out", x.misses(), 4 * 99951L * 99951L);
        x.move(0, -1);
        due("with shifts as told", x.misses(), 0);
        x.move(0, 0);
        due("and back", x.misses(), 4 * 99951L * 99951L);
        x.clock(999);
        x.find(0x1202, 1, 2, 0, 60);
        due("as of 999", x.misses(), 98951L * 98951L + 3 * 99951L * 99951L);
        missesByRegion();
        Counted most = coast();
        for (int n = 0; n < 6; n++) most.name(9, 5, 0);
        for (int c = 0; c < 5; c++) most.cast(0, 1000 * c, 1000, 0, 6 * 7 + c, 0);
        due("the most", most.misses(), 30L * 1000000 * 1000000);
    }

    /** A card in each region next to the shore: it lands with a shift of 1 there. */
    private static void missesByRegion() {
        Counted x = new Counted();
        for (int region = 0; region < 3; region++) {
            x.paint(9, 9, region, 0, 1);
            x.paint(9, 9, region, 3, 16);
            x.paint(0, 9, region, 1, region);
        }
        for (int region = 0; region < 3; region++) {
            x.cast(0, 10 * region, region + 1, 0, 6 * 8 + region, 0);
        }
        x.name(909, 5, 0);
        due("none lands", x.misses(), 0);
        x.move(1, 1);
        due("region 1", x.misses(), 4000000);
        x.move(2, 1);
        due("regions 1 and 2", x.misses(), 13000000);
        x.move(1, -1);
        due("region 2", x.misses(), 9000000);
        x.move(0, 1);
        due("regions 0 and 2", x.misses(), 10000000);
        x.move(2, -1);
        due("region 0", x.misses(), 1000000);
        x.move(2, 1);
        x.find(0x0020, 0, 0, 0, 60);
        x.find(0x0021, 0, 0, 0, 60);
        due("two of three got in region 2, none in region 0", x.misses(), 2000000);
        due("FIT of region 0", x.fit(0), -1);
        due("FIT of region 2", x.fit(2), 1);
        due("MISSED with it", x.misfit(), 1000000);
        due("shifts stay as told", x.move(0, 0), 1);
    }

    private static void doubt() {
        Counted x = new Counted();
        due("region", x.doubt(-1), NONE);
        due("region", x.doubt(3), NONE);
        due("no finds", x.doubt(0), 0);
        x = fitting();
        x.name(909, 202, 0);
        x.name(909, 303, 0);
        for (int i = 0; i < 3; i++) x.find(0x1000 + i, 0, 1, 0, 60);
        due("three got of 4: two would turn it", x.fit(0), 0);
        due("each of them", x.doubt(0), 3);
        due("not another region", x.doubt(1), 0);
        x.find(0x1000, 0, 1, 0, 60);
        due("a twin is none of them", x.doubt(0), 3);
        x.find(0x1003, 0, 0, 0, 60);
        due("a fake is none of them", x.doubt(0), 3);
        x.find(0x1003, 0, 1, 0, 60);
        x.drop(4, 1);
        due("four got", x.got(0, 1, 999), 4);
        due("three would do", x.doubt(0), 0);
        x.drop(0, 1);
        due("out, and its twin comes up", x.got(0, 1, 999), 4);
        x.drop(3, 1);
        due("three got again", x.doubt(0), 3);
        x.drop(1, 1);
        due("two got: as good as none", x.fit(0), -1);
        due("no doubt then", x.doubt(0), 0);
        latestThree();
    }

    /** Casts 0 and 1 land with shift 1 of regions 0 and 1; finds of cast 0 came first, later ones are of cast 1. */
    private static void latestThree() {
        Counted x = new Counted();
        x.paint(9, 9, 0, 0, 1);
        x.paint(9, 9, 1, 0, 1);
        x.paint(9, 9, 0, 3, 16);
        x.paint(9, 9, 1, 3, 16);
        x.paint(8, 8, 1, 1, 1);
        x.name(909, 1, 0);
        x.cast(0, 0, 3, 0, 6 * 8, 0);
        x.cast(0, 10, 3, 0, 6 * 8 + 1, 0);
        x.move(0, 1);
        x.move(1, 1);
        x.find(0x0000, 0, 0, 0, 60);
        x.find(0x0001, 0, 0, 0, 60);
        due("two of 3 fit", x.fit(0), 1);
        due("each turns it", x.doubt(0), 2);
        x.find(0x0010, 0, 0, 0, 60);
        x.find(0x0011, 0, 0, 0, 60);
        due("of the latest three one is of region 0", x.doubt(0), 1);
        due("two are of region 1", x.doubt(1), 2);
        x.find(0x0012, 0, 0, 0, 60);
        due("none of region 0 any more", x.doubt(0), 0);
        due("three got of 3: none turns it", x.doubt(1), 0);
    }

    private static void tells() {
        Counted x = coast();
        x.paint(0, 0, 5, 0, 2);
        due("place", x.tells(0, 0, -1, 0), NONE);
        due("place", x.tells(0, 0, 60, 0), NONE);
        due("month", x.tells(0, -1, 0, 0), NONE);
        due("month", x.tells(0, 48, 0, 0), NONE);
        due("region", x.tells(0, 0, 0, -1), NONE);
        due("region", x.tells(0, 0, 0, 3), NONE);
        due("NONE ahead of BAD", x.tells(2, 0, 0, 3), NONE);
        due("kind", x.tells(-1, 0, 0, 0), BAD);
        due("kind", x.tells(2, 0, 0, 0), BAD);
        due("kind", x.tells(4, 0, 0, 0), BAD);
        due("BAD ahead of STATE", x.tells(2, 0, 5, 0), BAD);
        due("land", x.tells(0, 0, 5, 0), STATE);
        due("shore", x.tells(0, 0, 54, 0), STATE);
        due("both land, -1 does not", x.tells(0, 0, 6 * 7 + 2, 0), 200000);
        due("a region that is not there", x.tells(0, 0, 6 * 7 + 2, 1), 0);
        x.move(0, 1);
        due("its shift told is no matter", x.tells(0, 0, 6 * 7 + 2, 0), 200000);
        x.move(0, -1);
        due("others as told: none lands", x.tells(0, 0, 6 * 7 + 2, 1), 0);
        x.move(0, 0);
        x.paint(8, 8, 2, 1, 1);
        due("others as told: 1 lands, 0 stays, -1 goes to and fro", x.tells(0, 0, 6 * 7 + 2, 1), 100000);
        x.move(0, 1);
        due("others as told: all past there", x.tells(0, 0, 6 * 7 + 2, 1), 0);
        x.move(0, 0);
        due("no state changed", x.move(1, 0), 0);
        due("nothing cast", x.count(0), 0);
        Counted kinds = new Counted();
        kinds.paint(9, 9, 0, 0, 1);
        kinds.paint(9, 9, 0, 3, 16);
        kinds.wind(0, -1, 0);
        kinds.current(0, 0, 44, 33);
        kinds.paint(0, 9, 0, 4, 4094);
        due("a bottle: 1 lands", kinds.tells(1, 0, 48, 0), 100000);
        due("a flat one: 0 and 1 land", kinds.tells(0, 12, 48, 0), 200000);
        due("a sail: none lands", kinds.tells(3, 24, 48, 0), 0);
        kinds.storm(24, 1, 0);
        due("a sail in a storm: all land", kinds.tells(3, 24, 48, 0), 0);
        Counted west = new Counted();
        west.paint(0, 0, 0, 0, 1);
        west.paint(0, 0, 0, 3, 16);
        west.paint(0, 9, 0, 4, 4094);
        west.current(0, 0, 44, 33);
        due("with -1 it stays, others go off", west.tells(0, 0, 6, 0), 0);
        west.current(0, 0, 33, 33);
        due("with -1 alone it lands", west.tells(0, 0, 6, 0), 200000);
        Counted cut = new Counted();
        cut.paint(9, 9, 0, 0, 1);
        cut.paint(9, 9, 1, 0, 1);
        cut.paint(9, 9, 0, 3, 5);
        cut.paint(9, 9, 1, 3, 1);
        cut.paint(7, 7, 0, 1, 1);
        cut.paint(7, 7, 1, 1, 1);
        cut.current(1, 0, 44, 34);
        long one = foundBehind(750000, 5, 11);
        long other = foundBehind(250000, 1, 11);
        due("the sum is cut otherwise", (one + other) / 10 - one / 10 - other / 10, 1);
        due("by 10, cut, in each cell", cut.tells(0, 0, 42, 0), one / 10 + other / 10);
    }

    /** Of parts that came ashore in the first of some months, those found, walked so many sixteenths. */
    private static long foundBehind(long ashore, int walked, int months) {
        long found = 0;
        for (int i = 0; i < months; i++) {
            long now = (ashore - found) * walked / 16;
            found += now;
        }
        return found;
    }

    private static void feed() {
        Counted x = new Counted();
        due("n", x.feed(0, 0), BAD);
        due("n", x.feed(0, -1), BAD);
        due("n", x.feed(0, 9), BAD);
        due("the lowest bytes, the highest first", x.feed(0x7A_70_72L, 2), 2);
        due("more", x.feed(0x69_7A_65_20L, 4), 6);
        due("one", x.feed(0x20_37L, 1), 7);
        due("it reads prize 7", x.prize(), 0);
        x.feed(0x70_72_69_7A_65_20_31_FFL, 8);
        due("a byte above 127", x.prize(), -17);
        x.feed(-1L, 8);
        due("all bytes above 127", x.prize(), -10);
        for (int i = 1; i <= 14; i++) due("8 more", x.feed(0, 8), 8 * i);
        due("119", x.feed(0, 7), 119);
        due("one too many", x.feed(0, 2), FULL);
        due("BAD ahead of FULL", x.feed(0, 9), BAD);
        due("it stays", x.count(5), 119);
        due("120", x.feed(0, 1), 120);
        due("full", x.feed(0, 1), FULL);
        due("empty then", x.prize(), -10);
        due("empty then", x.feed(0, 1), 1);
    }

    private static void prize() {
        Counted x = new Counted();
        due("empty", x.prize(), -10);
        String[] wrongs = {"Prize 1", "prise 1", "prize", "prize ", "prize  1", "prize x", "prize 12345", "prize 1 ", "prize 1  if far=1",
            "prize 1i", "prize 1 i", "prize 1 of", "prize 1 if", "prize 1 if ", "prize 1 if  far=1", "prize 1 if far", "prize 1 if far=",
            "prize 1 if far=x", "prize 1 if far =1", "prize 1 if far= 1", "prize 1 if far=12345", "prize 1 if far=1 ", "prize 1 if far==1",
            "prize 1 if !!far=1", "prize 1 if !", "prize 1 if fur=1", "prize 1 if month=1", "prize 1 if tongues=1", "prize 1 if kin",
            "prize 1 if weigh<1", "prize 1 if xfar=1", "prize 1 if far=1&", "prize 1 if far=1&&far=1", "prize 1 if far=1 & far=1",
            "prize 1 if far=1&far=2&far=3&", "prize 1 if far=1&far=2&far=3&far=4", "prize 1\n", " prize 1", "prize -1", "prize 1 if far=-1",
            "prize 1 if far=1&!", "prize 1 if far!=1", "prize 1 if FAR=1"};
        int[] faults = {0, 3, 5, 6, 6, 6, 10, 8, 8,
            7, 9, 8, 10, 11, 11, 14, 15,
            15, 14, 15, 19, 16, 15,
            12, 12, 12, 16, 17, 14,
            16, 11, 17, 17, 16,
            28, 28, 7, 0, 6, 15,
            18, 14, 11};
        for (int i = 0; i < wrongs.length; i++) {
            due("'" + wrongs[i] + "'", Bounds.prizeOf(x, wrongs[i]), -10 - faults[i]);
            due("THE TAPE is empty then", x.count(5), 0);
        }
        due("none was one", x.count(3), 0);
        String[] right = {"prize 0", "prize 9999", "prize 0007 if months=0", "prize 1 if !far<9999&kind>0", "prize 1 if tongue=0001&!weight=5&!weight>1",
            "prize 1 if months=1&months=2&months=3", "prize 12 if kind=1"};
        for (int i = 0; i < right.length; i++) {
            due("'" + right[i] + "'", Bounds.prizeOf(x, right[i]), i);
            due("THE TAPE is empty then", x.count(5), 0);
        }
        due("an eighth", Bounds.prizeOf(x, "prize 1"), 7);
        Bounds.feedText(x, "rubbish");
        due("FULL ahead of the FAULT", x.prize(), FULL);
        due("THE TAPE stays", x.count(5), 7);
        due("eight", x.count(3), 8);
    }

    /** One cast in month 3 at (7, 2), found at (9, 2): find 0 there, of a name of tongue 4, in months 5 .. 60. */
    private static Counted paying() {
        Counted x = twoCasts();
        x.find(0x1201, 0, 0, 5, 60);
        return x;
    }

    private static int payFor(String text) {
        Counted x = paying();
        Bounds.prizeOf(x, text);
        return x.pays(0);
    }

    private static void pays() {
        Counted x = paying();
        due("f", x.pays(-1), NONE);
        due("f", x.pays(1), NONE);
        due("no prizes", x.pays(0), 0);
        String[] holding = {"months=2", "months<3", "months>1", "far=2", "kind=0", "tongue=4", "weight=499", "weight>498", "weight<500",
            "!months=1", "!far>2", "!kind<0", "months=2&far=2", "months=2&!far=3&tongue>3"};
        for (String test : holding) due(test, payFor("prize 17 if " + test), 17);
        String[] failing = {"months=3", "months<2", "months>2", "far=1", "kind=1", "tongue=3", "weight=500", "!weight=499", "!far<3",
            "months=2&far=3", "months=3&far=2", "months=2&far=2&kind=1", "months=2&far=2&!kind=0"};
        for (String test : failing) due(test, payFor("prize 17 if " + test), 0);
        Counted whole = twoCasts();
        whole.find(0x1299, 0, 0, 4, 4);
        Bounds.prizeOf(whole, "prize 9 if weight=500");
        due("a weight of 500000", whole.pays(0), 9);
        x = paying();
        Bounds.prizeOf(x, "prize 100");
        Bounds.prizeOf(x, "prize 20 if far=2");
        Bounds.prizeOf(x, "prize 3 if far=1");
        due("all whose tests hold", x.pays(0), 120);
        x.drop(0, 1);
        due("out", x.pays(0), 0);
        x.drop(0, 0);
        x.find(0x1201, 0, 0, 5, 60);
        due("a twin", x.pays(1), 0);
        x.drop(0, 1);
        due("its twin is out", x.pays(1), 120);
        x.find(0x1202, 0, 0, 0, 0);
        due("a fake", x.pays(2), 0);
        x.find(0x1202, 0, 0, 0, 60);
        Counted early = paying();
        early.find(0x1202, 0, 0, 0, 60);
        Bounds.prizeOf(early, "prize 5 if months=0");
        due("months 0 at least", early.pays(1), 5);
        due("not of the other", early.pays(0), 0);
        farFrom();
    }

    /** From (3, 2) to rectangles on all sides; a bottle is blown to the first cell of the rectangle. */
    private static void farFrom() {
        int[][] ways = {{0, 0, 1}, {3, 0, 3}, {3, 3, 6}, {0, 3, 3}, {-3, 3, 6}, {-3, 0, 3}, {-3, -2, 5}, {0, -2, 2}, {2, -2, 4}};
        for (int[] way : ways) {
            Counted x = new Counted();
            int sx = 3 + way[0];
            int sy = 2 + way[1];
            if (way[0] == 0 && way[1] == 0) sx = 4;
            x.paint(sx, sx, sy, 0, 1);
            x.paint(sx, sx, sy, 3, 16);
            x.wind(0, sx - 3, sy - 2);
            x.cast(1, 0, 1, 0, 6 * 3 + 2, 0);
            x.name(101 * sx, 101 * sy, 0);
            x.name(9, 5, 0);
            x.find(0, 0, 0, 0, 60);
            x.find(1, 0, 1, 0, 60);
            Bounds.prizeOf(x, "prize 1 if far=" + way[2]);
            Bounds.prizeOf(x, "prize 20 if far=0");
            due("far " + way[0] + ", " + way[1], x.pays(0), 1);
            due("another card", x.pays(1), 0);
        }
        Counted x = coast();
        x.cast(0, 0, 1, 0, 6 * 3 + 2, 0);
        int[] names = {509, 609, 9, 309};
        int[] far = {2, 3, 0, 0};
        for (int n = 0; n < 4; n++) {
            x.name(names[n], n == 0 ? 202 : 5, 0);
            x.find(0xAAA0, 0, n, 0, 60);
            Bounds.prizeOf(x, "prize " + (n + 1) + " if far=" + n);
        }
        for (int n = 0; n < 4; n++) due("far from x " + names[n], x.pays(n), far[n] + 1);
    }

    private static void purse() {
        Counted x = twoCasts();
        due("as of", x.purse(-1), BAD);
        due("as of", x.purse(1000), BAD);
        Bounds.prizeOf(x, "prize 10");
        Bounds.prizeOf(x, "prize 5 if kind=1");
        x.find(0x1201, 0, 0, 0, 60);
        x.clock(7);
        x.find(0x1201, 1, 0, 0, 60);
        x.find(0x1201, 1, 0, 0, 60);
        x.clock(999);
        x.find(0x1202, 0, 0, 0, 60);
        x.find(0x9999, 0, 0, 0, 60);
        due("as of 0", x.purse(0), 10);
        due("as of 6", x.purse(6), 10);
        due("as of 7", x.purse(7), 25);
        due("as of 998", x.purse(998), 25);
        due("as of 999", x.purse(999), 35);
        x.drop(0, 1);
        due("out", x.purse(0), 0);
    }

    private static void letters() {
        Counted x = new Counted();
        x.name(0, 0, 5);
        x.name(0, 0, 0);
        x.name(1, 1, 5);
        due("tongue", x.letters(-1, 0), NONE);
        due("tongue", x.letters(6, 0), NONE);
        due("NONE ahead of BAD", x.letters(6, 1000), NONE);
        due("as of", x.letters(0, -1), BAD);
        due("as of", x.letters(0, 1000), BAD);
        x.find(0, 0, 0, 0, 0);
        x.clock(3);
        x.find(0, 0, 0, 0, 0);
        x.find(0, 0, 1, 0, 0);
        x.find(0, 0, 2, 0, 0);
        due("at 0", x.letters(5, 0), 1);
        due("at 2", x.letters(5, 2), 1);
        due("at 3", x.letters(5, 3), 3);
        due("another", x.letters(0, 999), 1);
        due("none", x.letters(1, 999), 0);
        x.drop(1, 1);
        due("out", x.letters(5, 3), 2);
    }

    private static void count() {
        Counted x = new Counted();
        due("what", x.count(-1), NONE);
        due("what", x.count(8), NONE);
        due("what", x.count(LOW), NONE);
        x.cast(0, 0, 1000, 0, 0, 0);
        x.cast(0, 1000, 1, 0, 0, 0);
        x.name(0, 0, 0);
        x.name(0, 0, 0);
        x.name(0, 0, 0);
        for (int f = 0; f < 4; f++) x.find(f, 0, 0, 0, 0);
        x.drop(1, 1);
        x.drop(2, 1);
        x.drop(2, 1);
        Bounds.prizeOf(x, "prize 1");
        x.clock(77);
        x.feed(0, 6);
        int[] due = {2, 3, 4, 1, 77, 6, 1001, 2};
        for (int what = 0; what < 8; what++) due("what " + what, x.count(what), due[what]);
    }
}
