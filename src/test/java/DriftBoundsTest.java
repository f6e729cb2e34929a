/** The boundaries of part 2 of the document, THE DRIFT, and of promises 10 to 12. */
public final class DriftBoundsTest extends Bounds {
    public static void main(String[] args) {
        months();
        atFirst();
        monthByMonth();
        sinking();
        stepsOfAMonth();
        allAtOnce();
        quarters();
        halves();
        shiftAndWindComeToHalves();
        offTheSea();
        eastAheadOfNorth();
        intoShore();
        intoLand();
        foundAndBuried();
        fewFoundAndBuried();
        onePart();
        neverLostCountOf();
        parts();
        partsAt();
        apart();
        apartOfFewParts();
        end();
    }

    private static void months() {
        says("THE DRIFT of a CAST, for 0 .. 12 months: 1000000 PARTS are in its CELL.");
        Counted x = new Counted();
        x.current(0, 11, 44, 33);
        x.cast(0, 0, 1, 0, place(3, 3), 0);
        int[] not = {-1, 13, LOW, HIGH};
        for (int months : not) {
            due("parts behind " + months, x.parts(0, months, 0), BAD);
            due("partsAt behind " + months, x.partsAt(0, months, 3, 3, 0), BAD);
        }
        for (int months = 0; months < 12; months++) due("behind " + months, x.partsAt(0, months, 3, 3, 0), ALL);
        due("behind 12: not there", x.partsAt(0, 12, 3, 3, 0), 0);
        due("behind 12: a step on", x.partsAt(0, 12, 4, 3, 0), ALL);
        Counted eternal = new Counted();
        shore(eternal, 6, 2, 8, 0);
        currentAllYear(eternal, 44, 33);
        eternal.cast(0, 0, 1, 0, place(5, 2), 0);
        eternal.name(9, 5, 0);
        eternal.find(0, 0, 0, 0, 60);
        due("found in 12 months, not in 13", eternal.weight(0, 0), eternal.parts(0, 12, 2));
    }

    private static void atFirst() {
        says("1000000 PARTS are in its CELL.");
        int[] places = {0, 5, 54, 59, 20};
        Counted x = new Counted();
        currentAllYear(x, 44, 44);
        for (int c = 0; c < 5; c++) x.cast(c == 2 ? 2 : 0, c, 1, c, places[c], c == 2 ? 1 : 0);
        for (int c = 0; c < 5; c++) {
            for (int i = 0; i < 60; i += 5) {
                due("cast " + c + " cell " + i, x.partsAt(c, 0, i / 6, i % 6, 0), i == places[c] ? ALL : 0);
            }
            due("its cell", x.partsAt(c, 0, places[c] / 6, places[c] % 6, 0), ALL);
            due("not ashore", x.partsAt(c, 0, places[c] / 6, places[c] % 6, 1), 0);
            due("not found", x.partsAt(c, 0, places[c] / 6, places[c] % 6, 2), 0);
            due("all in water", x.parts(c, 0, 0), ALL);
            for (int what = 1; what < 6; what++) due("what " + what, x.parts(c, 0, what), 0);
        }
    }

    private static void monthByMonth() {
        says("A month, t of them ahead of it (t from 0 on; it is month cast + t)");
        for (int cast = 0; cast < 12; cast++) {
            Counted x = new Counted();
            x.current(0, cast, 44, 33);
            x.current(0, (cast + 1) % 12, 33, 44);
            x.cast(0, 0, 1, cast, place(3, 3), 0);
            due("the first month is the cast's", x.partsAt(0, 1, 4, 3, 0), ALL);
            due("the next one follows", x.partsAt(0, 2, 4, 4, 0), ALL);
            due("and no more", x.partsAt(0, 12, 4, 4, 0), ALL);
        }
    }

    private static void sinking() {
        says("1 WEIGHTED: if t is its months at least, all PARTS in WATER are SUNK.");
        for (int sinks = 1; sinks <= 12; sinks++) {
            Counted x = new Counted();
            currentAllYear(x, 33, 33);
            x.cast(2, 0, 1, 47, place(3, 3), sinks);
            due(sinks + " months: in water", x.parts(0, sinks, 0), ALL);
            due(sinks + " months: none sunk", x.parts(0, sinks, 5), 0);
            if (sinks < 12) {
                due(sinks + " months: a month on, sunk", x.parts(0, sinks + 1, 5), ALL);
                due(sinks + " months: a month on, not in water", x.parts(0, sinks + 1, 0), 0);
                due(sinks + " months: at the end, sunk", x.parts(0, 12, 5), ALL);
            }
        }
        Counted x = new Counted();
        shore(x, 4, 3, 0, 0);
        x.current(0, 0, 34, 33);
        x.paint(3, 3, 3, 4, 4094);
        x.cast(2, 0, 1, 0, place(3, 3), 1);
        due("ice does not keep them", x.parts(0, 2, 5), 750000);
        due("those ashore stay", x.parts(0, 12, 1), 250000);
        Counted edge = new Counted();
        edge.current(0, 0, 44, 33);
        edge.current(0, 1, 44, 33);
        edge.cast(2, 0, 1, 0, place(8, 3), 1);
        due("sunk ahead of going", edge.parts(0, 2, 5), ALL);
        due("none is lost", edge.parts(0, 12, 4), 0);
        Counted kinds = new Counted();
        int[] others = {0, 1, 3};
        for (int c = 0; c < 3; c++) {
            kinds.cast(others[c], c, 1, 0, 0, 0);
            due("kind " + others[c] + " never sinks", kinds.parts(c, 12, 5), 0);
        }
    }

    private static void allAtOnce() {
        says("2 PARTS of each CELL of WATER go, all at once");
        int[][] ways = {{44, 33, 1, 0}, {22, 33, -1, 0}, {33, 44, 0, 1}, {33, 22, 0, -1}, {44, 44, 1, 1}, {22, 22, -1, -1}};
        for (int[] way : ways) {
            Counted x = new Counted();
            currentAllYear(x, way[0], way[1]);
            x.cast(0, 0, 1, 0, place(5, 3), 0);
            for (int months = 0; months <= 2; months++) {
                due(months + " steps of " + way[2] + ", " + way[3],
                    x.partsAt(0, months, 5 + months * way[2], 3 + months * way[3], 0), ALL);
            }
        }
        Counted two = new Counted();
        two.current(0, 0, 34, 33);
        two.current(0, 1, 44, 33);
        two.cast(0, 0, 1, 0, place(3, 3), 0);
        due("a month: the cell ahead", two.partsAt(0, 1, 4, 3, 0), 250000);
        due("two months: one follows the other", two.partsAt(0, 2, 4, 3, 0), 750000);
        due("two months: the other is ahead", two.partsAt(0, 2, 5, 3, 0), 250000);
    }

    private static void quarters() {
        says("else a quarter (cut) goes by from (east and north) of the CURRENT, a quarter by to");
        int[] quarter = {ALL, 250000, 62500, 15625, 3906, 976, 244, 61, 15, 3};
        Counted x = new Counted();
        currentAllYear(x, 34, 33);
        x.cast(0, 0, 1, 0, place(0, 3), 0);
        for (int months = 0; months <= 9; months++) {
            due("the foremost behind " + months, x.partsAt(0, months, months, 3, 0), quarter[months]);
        }
        due("a quarter of 3 is none", x.parts(0, 10, 4), 0);
        Counted west = new Counted();
        currentAllYear(west, 23, 33);
        west.cast(0, 0, 1, 0, place(9, 3), 0);
        for (int months = 0; months <= 9; months++) {
            due("by from: the foremost behind " + months, west.partsAt(0, months, 9 - months, 3, 0), quarter[months]);
        }
        due("by from: a quarter of 3 is none", west.parts(0, 10, 4), 0);
        says("the others by half of from and to together (cut towards 0)");
        due("the others: 3 of 4", x.partsAt(0, 1, 0, 3, 0), 750000);
        due("the others are never cut", x.parts(0, 12, 0) + x.parts(0, 12, 4), ALL);
        Counted odd = new Counted();
        odd.current(0, 0, 24, 33);
        odd.current(0, 1, 24, 33);
        odd.current(0, 2, 24, 33);
        odd.current(0, 3, 24, 33);
        odd.cast(0, 0, 1, 0, place(4, 3), 0);
        due("a quarter of a quarter of a quarter", odd.partsAt(0, 3, 7, 3, 0), 15625);
        due("of 15625 a quarter is 3906", odd.partsAt(0, 4, 8, 3, 0), 3906);
        due("and likewise to the west", odd.partsAt(0, 4, 0, 3, 0), 3906);
        due("others of 15625: 7813, and quarters of the cells beside", odd.partsAt(0, 4, 7, 3, 0),
            7813 + odd.partsAt(0, 3, 6, 3, 0) / 4);
    }

    private static void halves() {
        says("the others by half of from and to together (cut towards 0)");
        int[][] half = {{-3, -3, -3}, {-3, -2, -2}, {-3, -1, -2}, {-3, 0, -1}, {-3, 1, -1}, {-3, 2, 0}, {-3, 3, 0},
            {-2, -2, -2}, {-2, -1, -1}, {-2, 0, -1}, {-2, 1, 0}, {-2, 2, 0}, {-2, 3, 0}, {-1, -1, -1}, {-1, 0, 0}, {-1, 1, 0},
            {-1, 2, 0}, {-1, 3, 1}, {0, 0, 0}, {0, 1, 0}, {0, 2, 1}, {0, 3, 1}, {1, 1, 1}, {1, 2, 1}, {1, 3, 2}, {2, 2, 2},
            {2, 3, 2}, {3, 3, 3}};
        for (int[] h : half) {
            Counted x = new Counted();
            x.current(0, 0, 10 * (h[0] + 3) + h[1] + 3, 33);
            x.cast(0, 0, 1, 0, place(5, 3), 0);
            for (int east = -3; east <= 3; east++) {
                int want = (h[0] == east ? 250000 : 0) + (h[1] == east ? 250000 : 0) + (h[2] == east ? 500000 : 0);
                due("east " + h[0] + " .. " + h[1] + ": at " + east, x.partsAt(0, 1, 5 + east, 3, 0), want);
            }
            if (h[1] == 3) continue;
            x.current(0, 0, 33, 10 * (h[0] + 3) + h[1] + 3);
            for (int north = -3; north <= 2; north++) {
                int want = (h[0] == north ? 250000 : 0) + (h[1] == north ? 250000 : 0) + (h[2] == north ? 500000 : 0);
                due("north " + h[0] + " .. " + h[1] + ": at " + north, x.partsAt(0, 1, 5, 3 + north, 0), want);
            }
        }
    }

    private static void shiftAndWindComeToHalves() {
        says("to each east there comes the SHIFT of the REGION");
        Counted x = new Counted();
        x.current(0, 0, 34, 34);
        x.cast(1, 0, 1, 0, place(5, 2), 0);
        x.move(0, -1);
        due("-1: from", x.partsAt(0, 1, 4, 2, 0), 250000 + 500000);
        due("-1: to", x.partsAt(0, 1, 5, 3, 0), 250000);
        x.move(0, 1);
        due("1: from, half", x.partsAt(0, 1, 6, 2, 0), 250000 + 500000);
        due("1: to", x.partsAt(0, 1, 7, 3, 0), 250000);
        x.move(0, 0);
        x.wind(0, -1, -1);
        due("wind: from, half", x.partsAt(0, 1, 4, 1, 0), 250000 + 500000);
        due("wind: to", x.partsAt(0, 1, 5, 2, 0), 250000);
        x.move(0, 1);
        due("both: from, half", x.partsAt(0, 1, 5, 1, 0), 250000 + 500000);
        due("both: to", x.partsAt(0, 1, 6, 2, 0), 250000);
        Counted border = new Counted();
        border.paint(4, 9, 2, 1, 1);
        border.move(1, 1);
        border.current(0, 0, 44, 33);
        border.cast(0, 0, 1, 0, place(3, 2), 0);
        due("of the region that they set out from", border.partsAt(0, 1, 4, 2, 0), ALL);
        due("then of the next", border.partsAt(0, 2, 5, 2, 0), ALL);
    }

    private static void offTheSea() {
        says("into a CELL that is not there: LOST");
        int[][] edges = {{9, 3, 1, 0}, {0, 3, -1, 0}, {4, 5, 0, 1}, {4, 0, 0, -1}};
        for (int[] e : edges) {
            for (int off = 0; off <= 2; off++) {
                Counted x = new Counted();
                x.wind(0, 2 * e[2], 2 * e[3]);
                int cx = e[0] - off * e[2];
                int cy = e[1] - off * e[3];
                x.cast(1, 0, 1, 0, place(cx, cy), 0);
                due("two steps, " + off + " off the edge: lost", x.parts(0, 1, 4), off < 2 ? ALL : 0);
                due("two steps, " + off + " off the edge: there", x.partsAt(0, 1, e[0], e[1], 0), off < 2 ? 0 : ALL);
                due("lost for good", x.parts(0, 12, 4), off < 2 ? ALL : 0);
            }
        }
        Counted corner = new Counted();
        corner.wind(0, 1, 1);
        corner.cast(1, 0, 1, 0, place(9, 5), 0);
        corner.cast(1, 1, 1, 0, place(8, 4), 0);
        corner.cast(1, 2, 1, 0, place(8, 5), 0);
        corner.cast(1, 3, 1, 0, place(9, 4), 0);
        due("out of the corner", corner.parts(0, 1, 4), ALL);
        due("into the corner", corner.partsAt(1, 1, 9, 5, 0), ALL);
        due("along the north, then out", corner.parts(2, 1, 4), ALL);
        due("out to the east, not north", corner.parts(3, 1, 4), ALL);
        Counted back = new Counted();
        back.wind(0, 3, 0);
        back.current(0, 0, 0, 33);
        back.cast(1, 0, 1, 0, place(9, 2), 0);
        due("steps that undo each other are none", back.partsAt(0, 1, 9, 2, 0), ALL);
    }

    private static void eastAheadOfNorth() {
        says("A way goes step by step, all steps east (or west) ahead of those north (or south; north is y more)");
        int[][] ways = {{1, 1}, {1, -1}, {-1, 1}, {-1, -1}};
        for (int[] way : ways) {
            Counted x = new Counted();
            x.paint(5 + way[0], 5 + way[0], 2, 0, 1);
            x.paint(5, 5, 2 + way[1], 0, 1);
            x.wind(0, way[0], way[1]);
            x.cast(1, 0, 1, 0, place(5, 2), 0);
            due("east first: " + way[0] + ", " + way[1], x.partsAt(0, 1, 5 + way[0], 2, 1), ALL);
            Counted open = new Counted();
            open.paint(5, 5, 2 + way[1], 0, 1);
            open.wind(0, way[0], way[1]);
            open.cast(1, 0, 1, 0, place(5, 2), 0);
            due("past what lies north", open.partsAt(0, 1, 5 + way[0], 2 + way[1], 0), ALL);
            Counted far = new Counted();
            far.paint(5 + way[0], 5 + way[0], 2 + way[1], 0, 1);
            far.wind(0, 2 * way[0], 2 * way[1]);
            far.cast(1, 0, 1, 0, place(5, 2), 0);
            due("all steps east, then north", far.partsAt(0, 1, 5 + 2 * way[0], 2 + 2 * way[1], 0), ALL);
        }
    }

    private static void intoShore() {
        says("into SHORE: there it is ASHORE");
        for (int at = 1; at <= 4; at++) {
            Counted x = new Counted();
            x.paint(3 + at, 3 + at, 2, 0, 1);
            x.wind(0, 3, 0);
            x.cast(1, 0, 1, 0, place(3, 2), 0);
            due("shore " + at + " off a way of 3: ashore", x.partsAt(0, 1, 3 + at, 2, 1), at <= 3 ? ALL : 0);
            due("shore " + at + " off a way of 3: in water", x.partsAt(0, 1, 6, 2, 0), at <= 3 ? 0 : ALL);
        }
        Counted x = new Counted();
        x.paint(4, 4, 2, 0, 1);
        x.paint(5, 5, 2, 0, 1);
        x.wind(0, 2, 2);
        x.cast(1, 0, 1, 0, place(3, 2), 0);
        due("the first shore of two", x.partsAt(0, 1, 4, 2, 1), ALL);
        due("it is there for good", x.partsAt(0, 12, 4, 2, 1), ALL);
        Counted edge = new Counted();
        edge.paint(9, 9, 2, 0, 1);
        edge.wind(0, 3, 0);
        edge.cast(1, 0, 1, 0, place(8, 2), 0);
        due("a shore at the edge keeps it from being lost", edge.partsAt(0, 1, 9, 2, 1), ALL);
    }

    private static void intoLand() {
        says("into LAND: not, it stays ahead of that");
        for (int at = 1; at <= 4; at++) {
            Counted x = new Counted();
            x.paint(3 + at, 3 + at, 2, 0, 2);
            x.wind(0, 3, 0);
            x.cast(1, 0, 1, 0, place(3, 2), 0);
            due("land " + at + " off a way of 3", x.partsAt(0, 1, Math.min(3 + at - 1, 6), 2, 0), ALL);
            Counted north = new Counted();
            if (1 + at <= 5) north.paint(4, 4, 1 + at, 0, 2);
            north.wind(0, 1, 3);
            north.cast(1, 0, 1, 0, place(3, 1), 0);
            due("land " + at + " off, to the north", north.partsAt(0, 1, 4, Math.min(1 + at - 1, 4), 0), ALL);
        }
        Counted x = new Counted();
        x.paint(4, 4, 2, 0, 2);
        x.wind(0, 1, 2);
        x.cast(1, 0, 1, 0, place(3, 2), 0);
        due("its way ends there: no steps north", x.partsAt(0, 1, 3, 2, 0), ALL);
        Counted edge = new Counted();
        edge.paint(9, 9, 2, 0, 2);
        edge.wind(0, 3, 0);
        edge.cast(1, 0, 1, 0, place(8, 2), 0);
        due("land at the edge keeps it from being lost", edge.partsAt(0, 12, 8, 2, 0), ALL);
    }

    private static void foundAndBuried() {
        says("3 Of PARTS ASHORE in each CELL those times WALKED / 16, cut, are FOUND there in this month");
        Counted x = new Counted();
        shore(x, 6, 2, 5, 0);
        x.current(0, 0, 44, 33);
        x.cast(0, 0, 1, 0, place(5, 2), 0);
        long ashore = ALL;
        long found = 0;
        for (int months = 1; months <= 12; months++) {
            long now = ashore * 5 / 16;
            found += now;
            ashore -= now;
            due("found behind " + months, x.parts(0, months, 2), found);
            due("ashore behind " + months, x.partsAt(0, months, 6, 2, 1), ashore);
        }
        says("of the others those times SAND / 16, cut, are BURIED");
        x.paint(6, 6, 2, 2, 3);
        ashore = ALL;
        found = 0;
        long buried = 0;
        for (int months = 1; months <= 12; months++) {
            long now = ashore * 5 / 16;
            long under = (ashore - now) * 3 / 16;
            found += now;
            buried += under;
            ashore -= now + under;
            due("found behind " + months, x.partsAt(0, months, 6, 2, 2), found);
            due("buried behind " + months, x.parts(0, months, 3), buried);
            due("ashore behind " + months, x.parts(0, months, 1), ashore);
        }
        x.paint(6, 6, 2, 3, 16);
        x.paint(6, 6, 2, 2, 16);
        due("all found: no others are left", x.parts(0, 1, 2), ALL);
        due("none is buried", x.parts(0, 12, 3), 0);
        Counted water = new Counted();
        water.paint(0, 9, 2, 3, 16);
        water.paint(0, 9, 2, 2, 16);
        water.cast(0, 0, 1, 0, place(5, 2), 0);
        due("none in water is found", water.parts(0, 12, 2), 0);
        due("none in water is buried", water.parts(0, 12, 3), 0);
    }

    private static void fewFoundAndBuried() {
        says("cut, are FOUND there in this month");
        int[][] found = {{0, 0}, {1, 0}, {2, 1}, {3, 2}, {8, 7}, {15, 14}, {16, 15}};
        for (int[] f : found) {
            Counted x = fifteenAshore(f[0], 0);
            x.cast(0, 0, 1, 0, place(0, 0), 0);
            due("none behind 7", x.parts(0, 7, 2) + x.parts(0, 7, 1), 0);
            due("of 15, walked " + f[0], x.parts(0, 8, 2), f[1]);
            due("ashore", x.parts(0, 8, 1), 15 - f[1]);
        }
        says("cut, are BURIED");
        for (int[] f : found) {
            Counted x = fifteenAshore(0, f[0]);
            x.cast(0, 0, 1, 0, place(0, 0), 0);
            due("of 15, sand " + f[0], x.parts(0, 8, 3), f[1]);
            due("ashore", x.parts(0, 8, 1), 15 - f[1]);
        }
        Counted both = fifteenAshore(2, 2);
        both.cast(0, 0, 1, 0, place(0, 0), 0);
        due("one of 15 is found", both.parts(0, 8, 2), 1);
        due("one of the other 14 is buried", both.parts(0, 8, 3), 1);
        due("13 stay", both.parts(0, 8, 1), 13);
    }

    /**
     * Just one part comes to (9, 1), in the tenth month: 61 are in (7, 0) behind seven; 31 of them go a row north, a quarter
     * of these a step east, and a quarter of these, again.
     */
    private static Counted onePartTo(int is, int walked, int sand) {
        Counted x = new Counted();
        for (int month = 0; month < 7; month++) x.current(0, month, 34, 33);
        x.paint(7, 9, 0, 1, 1);
        x.paint(7, 9, 1, 1, 1);
        x.current(1, 7, 33, 35);
        x.current(1, 8, 34, 33);
        x.current(1, 9, 34, 33);
        x.paint(9, 9, 1, 0, is);
        x.paint(9, 9, 1, 3, walked);
        x.paint(9, 9, 1, 2, sand);
        x.cast(0, 0, 1, 0, place(0, 0), 0);
        return x;
    }

    private static void onePart() {
        says("month by month in parts that are never lost count of");
        Counted water = onePartTo(0, 0, 0);
        due("61", water.partsAt(0, 7, 7, 0, 0), 61);
        due("others of 61", water.partsAt(0, 8, 7, 1, 0), 31);
        due("a quarter of 31", water.partsAt(0, 9, 8, 1, 0), 7);
        due("a quarter of 7", water.partsAt(0, 10, 9, 1, 0), 1);
        due("it stays", water.partsAt(0, 12, 9, 1, 0), 1);
        due("all are there", water.parts(0, 12, 0), ALL);
        water.current(1, 10, 24, 33);
        due("no quarter of one part goes: none is lost", water.parts(0, 11, 4), 0);
        due("it stays, and 3 of 12 come", water.partsAt(0, 11, 9, 1, 0), 1 + 3);
        water.current(1, 10, 33, 44);
        due("it goes with all others", water.partsAt(0, 11, 9, 2, 0), 1);
        says("3 Of PARTS ASHORE in each CELL those times WALKED / 16, cut, are FOUND there in this month");
        due("one part is found", onePartTo(1, 16, 0).parts(0, 10, 2), 1);
        due("with 15 sixteenths none is", onePartTo(1, 15, 0).parts(0, 12, 2), 0);
        due("it is ashore", onePartTo(1, 15, 0).parts(0, 12, 1), 1);
        says("of the others those times SAND / 16, cut, are BURIED");
        due("one part is buried", onePartTo(1, 0, 16).parts(0, 10, 3), 1);
        due("with 15 sixteenths none is", onePartTo(1, 15, 15).parts(0, 12, 3), 0);
        says("into a CELL that is not there: LOST");
        Counted off = onePartTo(0, 0, 0);
        off.current(1, 10, 44, 33);
        due("one part is lost", off.parts(0, 11, 4), 1);
    }

    private static void neverLostCountOf() {
        says("month by month in parts that are never lost count of");
        Counted x = new Counted();
        for (int y = 0; y < 6; y++) {
            shore(x, 7, y, 3 + y, 5 - y);
            x.paint(2, 2, y, 1, 1);
            x.paint(0, 0, y, 0, y % 3);
        }
        for (int month = 0; month < 12; month++) {
            x.current(0, month, month % 2 == 0 ? 15 : 36, month % 3 == 0 ? 14 : 25);
            x.current(1, month, 46, 23);
            x.wind(month, month % 3 - 1, month % 5 - 2);
        }
        for (int kind = 0; kind < 4; kind++) x.cast(kind, kind, 1, 11 * kind, place(3, kind + 1), kind == 2 ? 6 : 0);
        for (int c = 0; c < 4; c++) {
            for (int months = 0; months <= 12; months++) {
                long all = 0;
                for (int what = 0; what < 6; what++) all += x.parts(c, months, what);
                due("cast " + c + " behind " + months, all, ALL);
            }
        }
    }

    private static void parts() {
        says("Behind months (0 .. 12) of THE DRIFT what 0 PARTS in WATER, 1 ASHORE, 2 FOUND, 3 BURIED, 4 LOST, 5 SUNK. NONE; BAD.");
        Counted x = new Counted();
        due("no cast", x.parts(0, 0, 0), NONE);
        x.cast(0, 0, 1, 0, 0, 0);
        due("the first what", x.parts(0, 0, 0), ALL);
        due("the last what", x.parts(0, 0, 5), 0);
        int[] noWhat = {-1, 6, LOW, HIGH};
        for (int what : noWhat) due("what " + what, x.parts(0, 0, what), NONE);
        int[] noCast = {-1, 1, 5, LOW, HIGH};
        for (int c : noCast) due("cast " + c, x.parts(c, 0, 0), NONE);
    }

    private static void partsAt() {
        says("Likewise in a CELL what 0 in WATER, 1 ASHORE, 2 FOUND there in all. NONE; BAD.");
        Counted x = new Counted();
        due("no cast", x.partsAt(0, 0, 0, 0, 0), NONE);
        shore(x, 9, 5, 8, 0);
        x.current(0, 0, 44, 33);
        x.cast(0, 0, 1, 0, place(8, 5), 0);
        due("the first what", x.partsAt(0, 0, 8, 5, 0), ALL);
        due("ashore, in the last cell", x.partsAt(0, 1, 9, 5, 1), 500000);
        due("the last what", x.partsAt(0, 1, 9, 5, 2), 500000);
        due("in all", x.partsAt(0, 12, 9, 5, 2), x.parts(0, 12, 2));
        due("in all, as far as asked", x.partsAt(0, 2, 9, 5, 2), 750000);
        int[] noWhat = {-1, 3, LOW, HIGH};
        for (int what : noWhat) due("what " + what, x.partsAt(0, 0, 0, 0, what), NONE);
        int[] noX = {-1, 10, LOW, HIGH};
        for (int cx : noX) due("x " + cx, x.partsAt(0, 0, cx, 0, 0), NONE);
        int[] noY = {-1, 6, LOW, HIGH};
        for (int cy : noY) due("y " + cy, x.partsAt(0, 0, 0, cy, 0), NONE);
        int[] noCast = {-1, 1, 5, LOW, HIGH};
        for (int c : noCast) due("cast " + c, x.partsAt(c, 0, 0, 0, 0), NONE);
        due("the first cell", x.partsAt(0, 12, 0, 0, 0), 0);
    }

    /** Casts 0 (flat) and 1 (a bottle) in one cell and month: a storm takes the bottle off. */
    private static Counted together(int month) {
        Counted x = new Counted();
        x.cast(0, 0, 1, month, place(5, 3), 0);
        x.cast(1, 1, 1, month, place(5, 3), 0);
        return x;
    }

    private static void apart() {
        says("APART are two CASTS behind so many months each, "
            + "the least number of 0 .. 12 behind which no CELL has PARTS of both (in WATER or ASHORE).");
        for (int behind = 1; behind <= 12; behind++) {
            Counted x = together(20);
            x.storm(20 + behind - 1, 1, 0);
            due("apart behind " + behind, x.apart(0, 1), behind);
            due("either way", x.apart(1, 0), behind);
        }
        Counted x = together(20);
        x.storm(32, 1, 0);
        says("STATE: not within 12.");
        due("a storm in the 13th month is too late", x.apart(0, 1), STATE);
        x.cast(0, 2, 1, 20, place(4, 3), 0);
        says("APART are two CASTS behind so many months each, "
            + "the least number of 0 .. 12 behind which no CELL has PARTS of both (in WATER or ASHORE).");
        due("apart at first", x.apart(0, 2), 0);
        Counted again = together(20);
        again.storm(22, 1, 0);
        again.storm(23, -1, 0);
        due("the least, though they come together again", again.apart(0, 1), 3);
        Counted each = new Counted();
        each.cast(0, 0, 1, 0, place(5, 3), 0);
        each.cast(0, 1, 1, 5, place(5, 3), 0);
        each.current(0, 7, 44, 33);
        due("behind so many months each", each.apart(0, 1), 3);
        Counted ends = together(0);
        ends.cast(0, 2, 1, 0, place(5, 3), 0);
        ends.current(0, 4, 66, 33);
        ends.current(0, 5, 66, 33);
        due("lost is nowhere", ends.apart(0, 2), 6);
        Counted sunk = new Counted();
        sunk.cast(2, 0, 1, 0, place(5, 3), 3);
        sunk.cast(2, 1, 1, 0, place(5, 3), 12);
        due("sunk is nowhere", sunk.apart(0, 1), 4);
        Counted ashore = new Counted();
        shore(ashore, 6, 3, 0, 0);
        ashore.current(0, 0, 44, 33);
        ashore.cast(0, 0, 1, 0, place(5, 3), 0);
        ashore.cast(0, 1, 1, 0, place(5, 3), 0);
        due("ashore is somewhere", ashore.apart(0, 1), STATE);
        ashore.paint(6, 6, 3, 3, 16);
        due("found is nowhere", ashore.apart(0, 1), 1);
        ashore.paint(6, 6, 3, 3, 0);
        ashore.paint(6, 6, 3, 2, 16);
        due("buried is nowhere", ashore.apart(0, 1), 1);
        says("APART: behind how many months. NONE (c is d, too); STATE: not within 12.");
        int[] not = {-1, 2, LOW, HIGH};
        for (int c : not) {
            due("c " + c, ashore.apart(c, 0), NONE);
            due("d " + c, ashore.apart(0, c), NONE);
        }
        due("c is d", ashore.apart(0, 0) + ashore.apart(1, 1), 2 * NONE);
        due("no casts", new Counted().apart(0, 1), NONE);
    }

    /** Both come to the shore alike, where 15 of each land; a storm in the ninth month takes the bottle's others off. */
    private static void apartOfFewParts() {
        says("no CELL has PARTS of both");
        int[] walked = {0, 15, 16};
        int[] ashore = {15, 1, 0};
        int[] want = {STATE, STATE, 9};
        for (int i = 0; i < 3; i++) {
            Counted x = fifteenAshore(walked[i], 0);
            x.storm(8, 0, 1);
            x.cast(0, 0, 1, 0, place(0, 0), 0);
            x.cast(1, 1, 1, 0, place(0, 0), 0);
            due("ashore, of one", x.partsAt(0, 9, 8, 0, 1), ashore[i]);
            due("ashore, of the other", x.partsAt(1, 9, 8, 0, 1), ashore[i]);
            due("with " + ashore[i] + " of each in one cell", x.apart(0, 1), want[i]);
        }
    }

    private static void stepsOfAMonth() {
        says("1 WEIGHTED: if t is its months at least, all PARTS in WATER are SUNK. 2 PARTS of each CELL of WATER go, all at once");
        Counted x = new Counted();
        shore(x, 6, 2, 8, 8);
        currentAllYear(x, 34, 33);
        x.cast(2, 0, 1, 0, place(5, 2), 2);
        due("behind a month: in water", x.parts(0, 1, 0), 750000);
        due("a quarter goes, and of it half is found in that month", x.parts(0, 1, 2), 125000);
        due("half of the others is buried in that month", x.parts(0, 1, 3), 62500);
        due("behind two: in water", x.parts(0, 2, 0), 562500);
        due("a quarter goes, and with it are those that are ashore", x.parts(0, 2, 2), 125000 + (62500 + 187500) / 2);
        due("behind three: all in water are sunk ahead of going", x.parts(0, 3, 5), 562500);
        due("none comes any more", x.parts(0, 3, 1), 62500 / 4);
        says("3 Of PARTS ASHORE in each CELL those times WALKED / 16, cut, are FOUND there in this month; "
            + "of the others those times SAND / 16, cut, are BURIED.");
        due("those ashore are found all the same", x.parts(0, 3, 2), 250000 + 31250);
        due("and buried", x.parts(0, 3, 3), 62500 + 62500 + 15625);
    }
}
