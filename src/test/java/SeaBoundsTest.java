/** The boundaries of part 1 of the document, THE SEA, and of promises 1 to 7. */
public final class SeaBoundsTest extends Bounds {
    private static final int[] MOST = {2, 2, 16, 16, 4095};

    public static void main(String[] args) {
        newObject();
        cells();
        whatCellsAre();
        regions();
        sixteenths();
        iceBits();
        iceByMonthOfTheYear();
        currentsByMonthOfTheYear();
        currentStrengths();
        currentCodes();
        shifts();
        winds();
        windsByMonthOfTheYear();
        rows();
        rowsAboveTheLast();
        becameOther();
        paintRefuses();
        paintWhenCast();
        cellRefuses();
        stormAndCalm();
        currentOfEachRegion();
        shiftOfEachRegion();
        fromToInARow();
        windAnswers();
        stormAndCalmRefuse();
        objectsAreApart();
        end();
    }

    private static void newObject() {
        says("All WATER of REGION 0, no CURRENTS, no WIND, nothing cast, TIME 0.");
        Counted x = new Counted();
        for (int i = 0; i < 60; i++) {
            for (int what = 0; what < 5; what++) due("cell " + i + " what " + what, x.cell(i / 6, i % 6, what), 0);
        }
        for (int what = 0; what < 8; what++) due("count " + what, x.count(what), 0);
        due("no cast", x.about(0, 0), NONE);
        due("no find", x.judge(0), NONE);
        due("no name", x.find(0, 0, 0, 0, 0), NONE);
        due("no prize, no tape", x.prize(), -10);
        for (int month = 0; month < 48; month++) due("no row of month " + month, x.calm(month), 0);
        for (int region = 0; region < 3; region++) due("shift of region " + region, x.move(region, 0), 0);
        due("time", x.clock(0), 0);
        Counted still = new Counted();
        still.paint(0, 9, 1, 1, 1);
        still.paint(0, 9, 2, 1, 2);
        for (int region = 0; region < 3; region++) {
            still.cast(3, 10 * region, 1, 36, place(5, region), 0);
            due("nothing moves in region " + region, still.partsAt(region, 12, 5, region, 0), ALL);
        }
    }

    private static void cells() {
        says("CELLS x 0 .. 9, y 0 .. 5");
        Counted x = new Counted();
        due("the first", x.cell(0, 0, 0), 0);
        due("the last", x.cell(9, 5, 0), 0);
        due("the last of the first row", x.cell(9, 0, 0), 0);
        due("the first of the last row", x.cell(0, 5, 0), 0);
        int[][] off = {{-1, 0}, {10, 0}, {0, -1}, {0, 6}, {10, 5}, {9, 6}, {-1, 5}, {9, -1}, {-1, -1}, {10, 6},
            {6, 9}, {LOW, 0}, {HIGH, 0}, {0, LOW}, {0, HIGH}, {LOW, HIGH}};
        for (int[] at : off) due("cell " + at[0] + ", " + at[1], x.cell(at[0], at[1], 0), NONE);
        due("paint the first", x.paint(0, 0, 0, 3, 1), 1);
        due("paint the last", x.paint(9, 9, 5, 3, 1), 1);
        due("paint a row", x.paint(0, 9, 3, 3, 1), 10);
        for (int[] at : off) due("paint " + at[0] + ", " + at[1], x.paint(at[0], at[0], at[1], 3, 1), NONE);
        due("from one that is not there", x.paint(-1, 9, 0, 3, 1), NONE);
        due("to one that is not there", x.paint(0, 10, 0, 3, 1), NONE);
        due("x is told ahead of y", x.cell(6, 0, 3) + x.cell(0, 3, 3), 1);
    }

    private static void whatCellsAre() {
        says("each WATER (0, at first), SHORE (1) or LAND (2)");
        Counted x = new Counted();
        due("it is water", x.paint(4, 4, 4, 0, 0), 0);
        due("shore", x.paint(4, 4, 4, 0, 1), 1);
        due("it is shore", x.cell(4, 4, 0), 1);
        due("land", x.paint(4, 4, 4, 0, 2), 1);
        due("it is land", x.cell(4, 4, 0), 2);
        due("above land", x.paint(4, 4, 4, 0, 3), BAD);
        due("below water", x.paint(4, 4, 4, 0, -1), BAD);
        due("it is land still", x.cell(4, 4, 0), 2);
        due("water again", x.paint(4, 4, 4, 0, 0), 1);
        due("a cast in water", x.cast(0, 0, 1, 0, place(4, 4), 0), 0);
    }

    private static void regions() {
        says("of a REGION (0 .. 2; 0 at first)");
        Counted x = new Counted();
        due("0 at first", x.paint(2, 2, 2, 1, 0), 0);
        due("the last", x.paint(2, 2, 2, 1, 2), 1);
        due("above", x.paint(2, 2, 2, 1, 3), BAD);
        due("below", x.paint(2, 2, 2, 1, -1), BAD);
        due("it stays", x.cell(2, 2, 1), 2);
        int[] there = {0, 2};
        int[] not = {-1, 3, LOW, HIGH};
        for (int region : there) {
            due("current", x.current(region, 0, 33, 33), 0);
            due("move", x.move(region, 0), 0);
            due("fit", x.fit(region), -1);
            due("doubt", x.doubt(region), 0);
            due("tells", x.tells(0, 0, 0, region), 0);
        }
        for (int region : not) {
            due("current of " + region, x.current(region, 0, 33, 33), NONE);
            due("move of " + region, x.move(region, 0), STATE);
            due("fit of " + region, x.fit(region), STATE);
            due("doubt of " + region, x.doubt(region), NONE);
            due("tells of " + region, x.tells(0, 0, 0, region), NONE);
        }
        for (int region = 0; region < 3; region++) {
            Counted one = new Counted();
            one.paint(0, 9, 2, 1, region);
            for (int r = 0; r < 3; r++) one.current(r, 0, 33, r == region ? 44 : 33);
            one.cast(0, 0, 1, 0, place(5, 2), 0);
            due("the current of region " + region, one.partsAt(0, 1, 5, 3, 0), ALL);
            for (int r = 0; r < 3; r++) one.move(r, r == region ? 1 : -1);
            due("the shift of region " + region, one.partsAt(0, 1, 6, 3, 0), ALL);
        }
    }

    private static void sixteenths() {
        says("with SAND (0 .. 16), WALKED (0 .. 16), both sixteenths");
        for (int what = 2; what <= 3; what++) {
            Counted x = new Counted();
            due("0 at first", x.paint(1, 1, 1, what, 0), 0);
            due("16", x.paint(1, 1, 1, what, 16), 1);
            due("17", x.paint(1, 1, 1, what, 17), BAD);
            due("below 0", x.paint(1, 1, 1, what, -1), BAD);
            due("far off", x.paint(1, 1, 1, what, HIGH), BAD);
            due("it stays", x.cell(1, 1, what), 16);
            due("15", x.paint(1, 1, 1, what, 15), 1);
            due("0", x.paint(1, 1, 1, what, 0), 1);
        }
        Counted x = new Counted();
        x.paint(6, 6, 2, 0, 1);
        x.current(0, 0, 44, 33);
        x.cast(0, 0, 1, 0, place(5, 2), 0);
        int[] of16 = {0, 1, 8, 15, 16};
        for (int walked : of16) {
            x.paint(6, 6, 2, 3, walked);
            due(walked + " sixteenths are found", x.parts(0, 1, 2), 62500 * walked);
            due("the others are not", x.parts(0, 1, 1), ALL - 62500 * walked);
        }
        x.paint(6, 6, 2, 3, 0);
        for (int sand : of16) {
            x.paint(6, 6, 2, 2, sand);
            due(sand + " sixteenths are buried", x.parts(0, 1, 3), 62500 * sand);
            due("the others are not", x.parts(0, 1, 1), ALL - 62500 * sand);
        }
    }

    private static void iceBits() {
        says("and ICE (bits: months of the year 0 .. 11)");
        Counted x = new Counted();
        due("none at first", x.paint(3, 3, 3, 4, 0), 0);
        due("all months", x.paint(3, 3, 3, 4, 4095), 1);
        due("a month too many", x.paint(3, 3, 3, 4, 4096), BAD);
        due("below 0", x.paint(3, 3, 3, 4, -1), BAD);
        due("far below", x.paint(3, 3, 3, 4, LOW), BAD);
        due("it stays", x.cell(3, 3, 4), 4095);
        due("the last month alone", x.paint(3, 3, 3, 4, 2048), 1);
        for (int month = 0; month < 12; month++) {
            Counted ice = new Counted();
            currentAllYear(ice, 44, 33);
            ice.cast(0, 0, 1, month, place(3, 3), 0);
            ice.paint(3, 3, 3, 4, 1 << month);
            due("ice in month " + month + " alone", ice.partsAt(0, 1, 3, 3, 0), ALL);
            ice.paint(3, 3, 3, 4, 4095 - (1 << month));
            due("ice in all but month " + month, ice.partsAt(0, 1, 4, 3, 0), ALL);
        }
    }

    private static void iceByMonthOfTheYear() {
        says("with ICE there in this month of the year they stay");
        int[] months = {0, 11, 12, 23, 24, 35, 36, 47};
        for (int month : months) {
            Counted x = new Counted();
            currentAllYear(x, 44, 33);
            x.paint(0, 9, 3, 4, 1 << month % 12);
            x.cast(0, 0, 1, month, place(3, 3), 0);
            due("month " + month, x.partsAt(0, 1, 3, 3, 0), ALL);
            due("the month behind it", x.partsAt(0, 2, 4, 3, 0), ALL);
        }
        Counted x = new Counted();
        x.move(0, 1);
        x.wind(0, 1, 0);
        x.paint(3, 3, 3, 4, 1);
        x.cast(3, 0, 1, 0, place(3, 3), 0);
        due("neither shift nor wind moves it", x.partsAt(0, 1, 3, 3, 0), ALL);
        Counted into = new Counted();
        into.current(0, 0, 44, 33);
        into.paint(4, 4, 3, 4, 4095);
        into.cast(0, 0, 1, 0, place(3, 3), 0);
        into.cast(0, 1, 1, 0, place(4, 3), 0);
        due("ice where they come to does not matter", into.partsAt(0, 1, 4, 3, 0), ALL);
        due("ice where they are does", into.partsAt(1, 12, 4, 3, 0), ALL);
        into.paint(2, 3, 3, 1, 1);
        into.current(1, 0, 55, 33);
        due("nor on the way", into.partsAt(0, 1, 5, 3, 0), ALL);
    }

    private static void currentsByMonthOfTheYear() {
        says("MONTHS are counted from 0 on; the month of the year is that modulo 12.");
        for (int month = 0; month < 48; month++) {
            Counted x = new Counted();
            x.current(0, month % 12, 44, 33);
            x.cast(0, 0, 1, month, place(3, 3), 0);
            due("the current of month " + month, x.partsAt(0, 1, 4, 3, 0), ALL);
            due("11 months of none", x.partsAt(0, 12, 4, 3, 0), ALL);
            Counted last = new Counted();
            last.current(0, (month + 11) % 12, 44, 33);
            last.cast(0, 0, 1, month, place(3, 3), 0);
            due("11 months of none", last.partsAt(0, 11, 3, 3, 0), ALL);
            due("the current of month " + (month + 11), last.partsAt(0, 12, 4, 3, 0), ALL);
        }
        Counted x = new Counted();
        due("the first month of the year", x.current(0, 0, 33, 33), 0);
        due("the last", x.current(0, 11, 33, 33), 0);
        int[] not = {-1, 12, 13, LOW, HIGH};
        for (int month : not) {
            due("current of " + month, x.current(0, month, 33, 33), NONE);
            due("wind of " + month, x.wind(month, 0, 0), NONE);
        }
    }

    private static void currentStrengths() {
        says("a CURRENT: east, north, from .. to (-3 .. 3 each; 0 at first)");
        for (int v = -3; v <= 3; v++) {
            Counted x = new Counted();
            x.current(0, 0, 11 * (v + 3), 33);
            x.cast(0, 0, 1, 0, place(5, 3), 0);
            due("east " + v, x.partsAt(0, 1, 5 + v, 3, 0), ALL);
            x.current(0, 0, 33, 11 * (v + 3));
            if (v < 3) due("north " + v, x.partsAt(0, 1, 5, 3 + v, 0), ALL);
            else due("north 3 is beyond", x.parts(0, 1, 4), ALL);
        }
        Counted x = new Counted();
        x.cast(0, 0, 1, 0, place(5, 3), 0);
        x.current(0, 0, 6, 33);
        due("the widest span: from", x.partsAt(0, 1, 2, 3, 0), 250000);
        due("the widest span: to", x.partsAt(0, 1, 8, 3, 0), 250000);
        due("the widest span: half", x.partsAt(0, 1, 5, 3, 0), 500000);
        x.current(0, 0, 33, 6);
        due("north: from", x.partsAt(0, 1, 5, 0, 0), 250000);
        due("north: to is beyond", x.parts(0, 1, 4), 250000);
        due("north: half", x.partsAt(0, 1, 5, 3, 0), 500000);
    }

    private static void currentCodes() {
        says("CURRENT: east as 10 times (from and 3) and (to and 3), north likewise; from is not above to: 0. NONE; BAD.");
        for (int v = -15; v <= 115; v++) {
            int from = v / 10;
            int to = v % 10;
            boolean good = v >= 0 && from <= 6 && to <= 6 && from <= to;
            Counted x = new Counted();
            due("east " + v, x.current(0, 0, v, 33), good ? 0 : BAD);
            due("north " + v, x.current(0, 0, 33, v), good ? 0 : BAD);
            due("both " + v, x.current(0, 0, v, v), good ? 0 : BAD);
        }
        Counted x = new Counted();
        due("far below", x.current(0, 0, LOW, 33), BAD);
        due("far above", x.current(0, 0, 33, HIGH), BAD);
        due("wraps around to a good one in 8 bits", x.current(0, 0, 256 + 33, 33), BAD);
    }

    private static void shifts() {
        says("and a SHIFT (-1 .. 1; 0 at first)");
        Counted x = new Counted();
        int[] not = {-2, 2, LOW, HIGH};
        for (int region = 0; region < 3; region++) {
            due("0 at first", x.move(region, -1), 0);
            for (int v : not) due("shift " + v, x.move(region, v), BAD);
            due("it was -1", x.move(region, 1), -1);
            due("it was 1", x.move(region, 0), 1);
        }
    }

    private static void winds() {
        says("WIND for each month of the year (east, north -3 .. 3; 0 at first)");
        Counted x = new Counted();
        due("the least", x.wind(0, -3, -3), 0);
        due("the most", x.wind(11, 3, 3), 0);
        int[] not = {-4, 4, LOW, HIGH};
        for (int v : not) {
            due("wind east " + v, x.wind(0, v, 0), BAD);
            due("wind north " + v, x.wind(0, 0, v), BAD);
            due("storm east " + v, x.storm(0, v, 0), BAD);
            due("storm north " + v, x.storm(0, 0, v), BAD);
        }
        due("the row was not told", x.calm(0), 0);
        for (int v = -3; v <= 3; v++) {
            Counted one = new Counted();
            one.wind(0, v, 0);
            one.wind(1, 0, v);
            one.storm(12, v, 0);
            one.storm(13, 0, v);
            one.cast(1, 0, 1, 0, place(5, 3), 0);
            one.cast(1, 1, 1, 12, place(5, 3), 0);
            for (int c = 0; c < 2; c++) {
                due("east " + v, one.partsAt(c, 1, 5 + v, 3, 0), ALL);
                if (v < 3) due("north " + v, one.partsAt(c, 2, 5 + v, 3 + v, 0), ALL);
                else due("north 3 is beyond", one.parts(c, 2, 4), ALL);
            }
        }
    }

    private static void windsByMonthOfTheYear() {
        says("and the WIND of the month as the KIND floats, east and north");
        for (int month = 0; month < 48; month++) {
            Counted x = new Counted();
            x.wind(month % 12, 1, 0);
            x.cast(1, 0, 1, month, place(3, 3), 0);
            due("the wind of month " + month, x.partsAt(0, 1, 4, 3, 0), ALL);
            due("no other", x.partsAt(0, 12, 4, 3, 0), ALL);
        }
    }

    private static void rows() {
        says("a ROW tells that of a month 0 .. 47");
        Counted x = new Counted();
        due("the first", x.storm(0, 1, 0), 0);
        due("the last", x.storm(47, 1, 0), 0);
        due("behind the last", x.storm(48, 1, 0), NONE);
        due("ahead of the first", x.storm(-1, 1, 0), NONE);
        due("far off", x.storm(HIGH, 1, 0), NONE);
        due("far off", x.storm(LOW, 1, 0), NONE);
        due("calm behind the last", x.calm(48), NONE);
        due("calm ahead of the first", x.calm(-1), NONE);
        due("the last is there", x.calm(47), 1);
        due("the first is there", x.calm(0), 1);
        due("a month of another year has none", x.calm(12), 0);
        for (int month = 0; month < 48; month++) {
            Counted one = new Counted();
            one.wind(month % 12, 0, 1);
            one.storm(month, 1, 0);
            one.cast(1, 0, 1, month, place(3, 3), 0);
            one.cast(1, 1, 1, (month + 12) % 48, place(3, 3), 0);
            due("the row of month " + month, one.partsAt(0, 1, 4, 3, 0), ALL);
            due("the wind of a month a year on", one.partsAt(1, 1, 3, 4, 0), ALL);
            one.calm(month);
            due("the wind of month " + month, one.partsAt(0, 1, 3, 4, 0), ALL);
        }
    }

    private static void rowsAboveTheLast() {
        says("(of a month above 47 that of the month modulo 48)");
        for (int month = 48; month <= 58; month++) {
            Counted x = new Counted();
            x.cast(1, 0, 1, 47, place(3, 3), 0);
            x.storm(month - 48, 1, 0);
            int behind = month - 47;
            due("ahead of month " + month, x.partsAt(0, behind, 3, 3, 0), ALL);
            due("month " + month, x.partsAt(0, behind + 1, 4, 3, 0), ALL);
            x.calm(month - 48);
            x.storm((month - 48) + 12, 1, 0);
            due("not the row a year on", x.partsAt(0, 12, 3, 3, 0), ALL);
        }
        Counted x = new Counted();
        x.cast(1, 0, 1, 47, place(3, 3), 0);
        x.cast(1, 1, 1, 36, place(3, 3), 0);
        x.storm(47, 1, 0);
        due("47 itself, as the first month", x.partsAt(0, 1, 4, 3, 0), ALL);
        due("47 itself, as the last month", x.partsAt(1, 12, 4, 3, 0), ALL);
        x.storm(11, 1, 0);
        due("month 59 is never come to", x.partsAt(0, 12, 4, 3, 0), ALL);
        x.storm(0, 0, 1);
        x.wind(0, 3, 3);
        due("the row of month 0 goes ahead of the wind in month 48", x.partsAt(0, 2, 4, 4, 0), ALL);
        x.calm(0);
        x.wind(0, 0, -1);
        due("the wind of month 48, with no row", x.partsAt(0, 2, 4, 2, 0), ALL);
    }

    private static void becameOther() {
        says("4 ICE (0 .. 4095) becomes v: how many became other.");
        for (int what = 0; what < 5; what++) {
            Counted x = new Counted();
            due("none: it is so", x.paint(0, 9, 2, what, 0), 0);
            due("one", x.paint(4, 4, 2, what, 1), 1);
            due("nine", x.paint(0, 9, 2, what, 1), 9);
            due("none any more", x.paint(0, 9, 2, what, 1), 0);
            due("all ten", x.paint(0, 9, 2, what, MOST[what]), 10);
            due("the row below stays", x.cell(4, 1, what), 0);
            due("the row above stays", x.cell(4, 3, what), 0);
        }
    }

    private static void paintRefuses() {
        says("NONE: CELLS (x0 above x1, too), what; BAD; STATE: what 0 as something was cast.");
        Counted x = new Counted();
        due("x0 is x1", x.paint(5, 5, 0, 3, 1), 1);
        due("x0 above x1 by one", x.paint(6, 5, 0, 3, 1), NONE);
        due("x0 above x1", x.paint(9, 0, 0, 3, 1), NONE);
        due("what below", x.paint(0, 0, 0, -1, 0), NONE);
        due("the first what", x.paint(0, 0, 0, 0, 0), 0);
        due("the last what", x.paint(0, 0, 0, 4, 0), 0);
        due("what above", x.paint(0, 0, 0, 5, 0), NONE);
        due("what far off", x.paint(0, 0, 0, HIGH, 0) + x.paint(0, 0, 0, LOW, 0), 2 * NONE);
        for (int what = 0; what < 5; what++) {
            due("the most of " + what, x.paint(7, 7, 0, what, MOST[what]), 1);
            due("above it", x.paint(7, 7, 0, what, MOST[what] + 1), BAD);
            due("below 0", x.paint(7, 7, 0, what, -1), BAD);
            due("it stays", x.cell(7, 0, what), MOST[what]);
        }
    }

    private static void paintWhenCast() {
        says("STATE: what 0 as something was cast.");
        Counted x = new Counted();
        due("ahead of a cast", x.paint(0, 0, 0, 0, 1), 1);
        x.cast(0, 0, 1, 0, place(0, 0), 0);
        due("a cast that was refused is none", x.paint(0, 0, 0, 0, 0), 1);
        x.cast(0, 0, 1, 0, place(0, 0), 0);
        for (int v = 0; v <= 2; v++) due("what 0 becomes " + v, x.paint(9, 9, 5, 0, v), STATE);
        for (int what = 1; what < 5; what++) due("what " + what, x.paint(9, 9, 5, what, 1), 1);
        due("it is water still", x.cell(9, 5, 0), 0);
    }

    private static void cellRefuses() {
        says("Of a CELL what as in paint(). NONE.");
        Counted x = new Counted();
        for (int what = 0; what < 5; what++) {
            x.paint(9, 9, 5, what, MOST[what]);
            due("what " + what, x.cell(9, 5, what), MOST[what]);
        }
        int[] not = {-1, 5, LOW, HIGH};
        for (int what : not) due("what " + what, x.cell(9, 5, what), NONE);
    }

    private static void stormAndCalm() {
        says("A ROW for a month (0 .. 47): 1 if there was one, else 0. NONE: month; BAD.");
        Counted x = new Counted();
        for (int month = 0; month < 48; month++) due("none in month " + month, x.storm(month, 0, 0), 0);
        for (int month = 0; month < 48; month++) due("one in month " + month, x.storm(month, 1, 0), 1);
        says("There is no ROW for a month any more: 1 if there was one, else 0. NONE: month.");
        for (int month = 0; month < 48; month++) due("one in month " + month, x.calm(month), 1);
        for (int month = 0; month < 48; month++) due("none in month " + month, x.calm(month), 0);
        due("told again", x.storm(47, 3, -3), 0);
    }

    /** Row r is of region r. */
    private static Counted threeRegions() {
        Counted x = new Counted();
        for (int r = 0; r < 3; r++) x.paint(0, 9, r, 1, r);
        return x;
    }

    private static void currentOfEachRegion() {
        says("Each REGION has for each month of the year a CURRENT: east, north, from .. to (-3 .. 3 each; 0 at first), "
            + "and a SHIFT (-1 .. 1; 0 at first).");
        for (int region = 0; region < 3; region++) {
            for (int month = 0; month < 12; month++) {
                Counted x = threeRegions();
                x.current(region, month, 44, 33);
                for (int r = 0; r < 3; r++) {
                    x.cast(0, r, 1, 0, place(5, r), 0);
                    String what = "region " + region + ", month " + month + ": region " + r;
                    due(what + " ahead of it", x.partsAt(r, month, 5, r, 0), ALL);
                    due(what + " behind it", x.partsAt(r, month + 1, r == region ? 6 : 5, r, 0), ALL);
                    due(what + " at the end", x.partsAt(r, 12, r == region ? 6 : 5, r, 0), ALL);
                }
            }
        }
    }

    private static void shiftOfEachRegion() {
        says("and a SHIFT (-1 .. 1; 0 at first).");
        for (int region = 0; region < 3; region++) {
            for (int v = -1; v <= 1; v++) {
                Counted x = threeRegions();
                x.move(region, v);
                for (int r = 0; r < 3; r++) {
                    x.cast(0, r, 1, 10, place(5, r), 0);
                    for (int months = 0; months <= 4; months++) {
                        int to = r == region ? 5 + v * months : 5;
                        due("region " + region + " by " + v + ": region " + r, x.partsAt(r, months, to, r, 0), ALL);
                    }
                }
            }
        }
    }

    private static void fromToInARow() {
        says("CELLS x0 .. x1 of a row y: what 0 what they are (0 .. 2), 1 REGION (0 .. 2), 2 SAND, 3 WALKED (0 .. 16), 4 ICE (0 .. 4095) "
            + "becomes v: how many became other.");
        for (int x0 = 0; x0 < 10; x0++) {
            for (int x1 = x0; x1 < 10; x1++) {
                int row = (x0 + x1) % 6;
                int what = x1 % 5;
                Counted x = new Counted();
                due(x0 + " .. " + x1, x.paint(x0, x1, row, what, MOST[what]), x1 - x0 + 1);
                for (int i = 0; i < 60; i++) {
                    boolean in = i % 6 == row && x0 <= i / 6 && i / 6 <= x1;
                    due(x0 + " .. " + x1 + " of " + row + ": cell " + i, x.cell(i / 6, i % 6, what), in ? MOST[what] : 0);
                }
                for (int other = 0; other < 5; other++) {
                    if (other != what) due("another what stays", x.cell(x0, row, other) + x.cell(x1, row, other), 0);
                }
            }
        }
    }

    private static void windAnswers() {
        says("WIND of a month of the year: 0. NONE; BAD.");
        Counted x = new Counted();
        for (int month = 0; month < 12; month++) {
            due("told", x.wind(month, 1, -1), 0);
            due("told again", x.wind(month, 1, -1), 0);
            due("another", x.wind(month, 0, 1), 0);
            due("BAD", x.wind(month, 4, 1), BAD);
            due("BAD", x.wind(month, 1, 4), BAD);
        }
        due("NONE", x.wind(12, 1, 1), NONE);
        due("NONE ahead of BAD", x.wind(-1, 4, 4), NONE);
        x.cast(1, 0, 1, 30, place(4, 0), 0);
        for (int months = 0; months <= 5; months++) {
            due("the one told last, in month " + (30 + months), x.partsAt(0, months, 4, months, 0), ALL);
        }
    }

    private static void stormAndCalmRefuse() {
        says("NONE: month; BAD.");
        Counted x = new Counted();
        int[] not = {-1, 48, LOW, HIGH};
        for (int month : not) {
            due("storm in " + month, x.storm(month, 0, 0), NONE);
            due("storm in " + month + ", NONE ahead of BAD", x.storm(month, 4, -4), NONE);
            due("calm in " + month, x.calm(month), NONE);
        }
        due("a storm", x.storm(47, 1, 0), 0);
        due("BAD", x.storm(47, -4, 0), BAD);
        due("BAD", x.storm(47, 0, 4), BAD);
        x.cast(1, 0, 1, 47, place(4, 0), 0);
        due("it is as it was told", x.partsAt(0, 1, 5, 0, 0), ALL);
        due("it is there", x.calm(47), 1);
    }

    private static void objectsAreApart() {
        says("All WATER of REGION 0, no CURRENTS, no WIND, nothing cast, TIME 0.");
        Counted full = States.full();
        long missed = full.misses();
        Counted x = new Counted();
        for (int what = 0; what < 8; what++) due("new beside a full one, count " + what, x.count(what), 0);
        for (int i = 0; i < 60; i++) due("new beside a full one, cell " + i, x.cell(i / 6, i % 6, 0) + x.cell(i / 6, i % 6, 3), 0);
        due("nothing is missed", x.misses(), 0);
        due("no shift", x.move(0, -1), 0);
        x.cast(3, 0, 1, 0, place(5, 3), 0);
        due("no wind", x.partsAt(0, 1, 4, 3, 0), ALL);
        due("a full one stays as it was", full.misses(), missed);
        due("and its time", full.count(4), 999);
        due("and its shift", full.move(0, 1), 1);
    }
}
