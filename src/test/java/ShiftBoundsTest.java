/** The boundaries of part 4 of the document, what is MISSED, and of promises 23 to 28. */
public final class ShiftBoundsTest extends Bounds {
    public static void main(String[] args) {
        move();
        nothingToFit();
        fitOfEachShift();
        firstOfSeveral();
        noOtherShifts();
        sureByShiftsTold();
        missedIsCut();
        missedInTwelveMonths();
        missedAsOfTheLastTime();
        missedAtMost();
        doubtOfThree();
        doubtOfLatest();
        doubtRefuses();
        tellsRefuses();
        tellsByKind();
        tellsIsCut();
        tellsInTwelveMonths();
        tellsOfOneRegion();
        missedOfEachCastAndName();
        missedWithShifts();
        doubtByDropping();
        tellsByCasting();
        end();
    }

    private static void move() {
        says("SHIFT of a REGION becomes v: what it was. STATE: there is no such REGION; BAD.");
        Counted x = new Counted();
        int[] noRegion = {-1, 3, LOW, HIGH};
        for (int region : noRegion) due("region " + region, x.move(region, 0), STATE);
        int[] noShift = {-2, 2, LOW, HIGH};
        for (int v : noShift) due("shift " + v, x.move(2, v), BAD);
        for (int v : noShift) due("no region, no shift: the first one told", x.move(3, v), STATE);
        due("the least", x.move(2, -1), 0);
        due("the most", x.move(2, 1), -1);
        due("it was", x.move(2, 1), 1);
        due("the others stay", x.move(0, 0) + x.move(1, 0), 0);
    }

    private static void nothingToFit() {
        says("FIT of a REGION. STATE: there is none such.");
        Counted x = new Counted();
        int[] not = {-1, 3, LOW, HIGH};
        for (int region : not) due("region " + region, x.fit(region), STATE);
        for (int region = 0; region < 3; region++) due("nothing cast: the first of all", x.fit(region), -1);
        due("nothing cast, nothing missed", x.misfit(), 0);
        due("nothing cast, nothing missed", x.misses(), 0);
        x.name(9, 5, 0);
        due("a name alone", x.misses() + x.misfit(), 0);
        Counted y = new Counted();
        shore(y, 5, 1, 16, 0);
        y.current(0, 0, 33, 44);
        y.cast(0, 0, 1000, 0, place(5, 0), 0);
        due("a cast alone", y.misses() + y.misfit(), 0);
        y.name(9, 5, 0);
        due("both", y.misses(), 1000000L * 1000000L);
        due("both, with the shifts that fit best", y.misfit(), 0);
    }

    /**
     * A card of each region r at (4, 2 r), which comes a row north in month 0, to the shore there with just one shift; told
     * are those shifts, and a find of each card.
     */
    private static Counted threeCards(int[] shifts) {
        Counted x = new Counted();
        for (int r = 0; r < 3; r++) {
            x.paint(0, 9, 2 * r, 1, r);
            x.paint(0, 9, 2 * r + 1, 1, r);
            shore(x, 4 + shifts[r], 2 * r + 1, 16, 0);
            x.current(r, 0, 33, 44);
            x.move(r, shifts[r]);
        }
        x.name(9, 5, 0);
        for (int r = 0; r < 3; r++) {
            x.cast(0, r, 1, 0, place(4, 2 * r), 0);
            x.find(r, 0, 0, 0, 60);
        }
        return x;
    }

    private static void fitOfEachShift() {
        says("FIT: of all SHIFTS of the three REGIONS (REGION 0's from -1 on, then 1's, 2's) the ones with the least MISSED");
        for (int all = 0; all < 27; all++) {
            int[] shifts = {all / 9 - 1, all / 3 % 3 - 1, all % 3 - 1};
            Counted x = threeCards(shifts);
            for (int r = 0; r < 3; r++) due("shifts " + all + ", region " + r, x.fit(r), shifts[r]);
            due("nothing is missed", x.misfit(), 0);
            due("nor with those told", x.misses(), 0);
            for (int r = 0; r < 3; r++) x.drop(r, 1);
            due("all out: all that lands is missed", x.misses(), 3000000);
            for (int r = 0; r < 3; r++) due("the first that does not land", x.fit(r), shifts[r] == -1 ? 0 : -1);
            due("nothing is missed", x.misfit(), 0);
        }
    }

    /** A card goes through two regions, a month in each, and lands if both shifts together are so much. */
    private static Counted throughTwo(int first, int second, int together) {
        Counted x = new Counted();
        x.paint(0, 9, 0, 1, first);
        x.paint(0, 9, 1, 1, second);
        x.paint(0, 9, 2, 4, 4095);
        x.current(first, 0, 33, 44);
        x.current(second, 1, 33, 44);
        shore(x, 4 + together, 2, 16, 0);
        x.name(9, 5, 0);
        x.cast(0, 0, 1, 0, place(4, 0), 0);
        x.move(first, together / 2);
        x.move(second, together - together / 2);
        x.find(0, 0, 0, 0, 60);
        return x;
    }

    private static void firstOfSeveral() {
        says("the first of several");
        int[] sums = {-2, -1, 0, 1, 2};
        int[] lower = {-1, -1, -1, 0, 1};
        int[] higher = {-1, 0, 1, 1, 1};
        for (int first = 0; first < 3; first++) {
            for (int second = 0; second < 3; second++) {
                if (first == second) continue;
                for (int i = 0; i < 5; i++) {
                    Counted x = throughTwo(first, second, sums[i]);
                    String what = "through " + first + " and " + second + ", together " + sums[i];
                    due(what + ": sure", x.judge(0), 2);
                    due(what + ": the lower region", x.fit(Math.min(first, second)), lower[i]);
                    due(what + ": the higher one", x.fit(Math.max(first, second)), higher[i]);
                    due(what + ": the third", x.fit(3 - first - second), -1);
                    due(what + ": nothing is missed", x.misfit(), 0);
                }
            }
        }
    }

    /** Shifts of -1, 0 and 1 all land cards that none got; a greater one, which there is not, would not. */
    private static void noOtherShifts() {
        says("and a SHIFT (-1 .. 1; 0 at first)");
        for (int region = 0; region < 3; region++) {
            Counted x = new Counted();
            for (int y = 0; y < 2; y++) x.paint(0, 9, y, 1, region);
            for (int cx = 3; cx <= 5; cx++) shore(x, cx, 1, 16, 0);
            x.current(region, 0, 33, 44);
            x.cast(0, 0, 2, 0, place(4, 0), 0);
            x.name(9, 5, 0);
            due("all shifts of region " + region + " miss as much", x.misfit(), 2000L * 2000);
            for (int r = 0; r < 3; r++) due("the first of all", x.fit(r), -1);
        }
    }

    private static void sureByShiftsTold() {
        says("who is SURE is by the SHIFTS that are told");
        Counted x = threeCards(new int[] {1, 1, 1});
        due("sure", x.fit(2), 1);
        x.move(2, 0);
        due("not any more", x.judge(2), 0);
        due("so it fits what does not land", x.fit(2), -1);
        due("the others stay", x.fit(0) + x.fit(1), 2);
        due("nothing is missed", x.misfit(), 0);
        due("with those told neither", x.misses(), 0);
        x.move(2, 1);
        due("sure again", x.fit(2), 1);
    }

    private static void missedIsCut() {
        says("times its CARDS, by 1000, cut, less 1000 times what it GOT there (as of 999); squares of that, together.");
        int[] cards = {1, 999, 1000};
        long[] due = {0, 0, 1};
        long[] got = {1000L * 1000, 1000L * 1000, 999L * 999};
        for (int i = 0; i < 3; i++) {
            Counted x = fifteenAshore(2, 16);
            x.cast(0, 0, cards[i], 0, 0, 0);
            x.name(9, 5, 0);
            due("one part of " + cards[i] + " cards", x.misses(), due[i]);
            x.find(0, 0, 0, 0, 60);
            due("and one got", x.misses(), got[i]);
            x.name(808, 0, 0);
            due("in two names, one got in the first", x.misses(), got[i] + due[i]);
            x.find(0xAAAA, 0, 1, 0, 60);
            due("in two names, one got in each", x.misses(), 2 * got[i]);
        }
        int[] few = {66, 67, 133, 134, 1000};
        long[] of15 = {0, 1, 1, 2, 15};
        for (int i = 0; i < 5; i++) {
            Counted x = fifteenAshore(16, 0);
            x.cast(0, 0, few[i], 0, 0, 0);
            x.name(9, 5, 0);
            due("15 parts of " + few[i] + " cards", x.misses(), of15[i] * of15[i]);
        }
    }

    private static void missedInTwelveMonths() {
        says("MISSED: for each CAST and NAME: PARTS of its DRIFT FOUND in CELLS of the NAME (in its 12 months)");
        Counted x = new Counted();
        shore(x, 6, 2, 16, 0);
        x.storm(30, 1, 0);
        x.cast(1, 0, 1, 18, place(5, 2), 0);
        x.name(9, 5, 0);
        due("the 13th month", x.misses(), 0);
        x.cast(1, 1, 2, 19, place(5, 2), 0);
        due("the 12th month", x.misses(), 2000L * 2000);
        x.cast(1, 3, 3, 30, place(5, 2), 0);
        due("the first month", x.misses(), 2000L * 2000 + 3000L * 3000);
        x.cast(1, 6, 4, 31, place(5, 2), 0);
        due("behind it", x.misses(), 2000L * 2000 + 3000L * 3000);
        x.name(606, 202, 0);
        due("a name of that cell alone", x.misses(), 2 * (2000L * 2000 + 3000L * 3000));
        x.name(5, 5, 0);
        x.name(709, 5, 0);
        x.name(9, 1, 0);
        x.name(9, 305, 0);
        due("names of all around it", x.misses(), 2 * (2000L * 2000 + 3000L * 3000));
    }

    private static void missedAsOfTheLastTime() {
        says("less 1000 times what it GOT there (as of 999)");
        Counted x = threeCards(new int[] {0, 0, 0});
        x.clock(999);
        for (int r = 0; r < 3; r++) x.drop(r, 1);
        for (int r = 0; r < 3; r++) {
            due("landed, not got", x.misses(), (3 - r) * 1000000L);
            x.find(r, 0, 0, 0, 60);
        }
        due("got, told at the last time", x.misses(), 0);
        due("and so it fits", x.fit(0) + x.fit(1) + x.fit(2), 0);
        due("nothing is missed", x.misfit(), 0);
    }

    private static void missedAtMost() {
        says("squares of that, together");
        Counted x = new Counted();
        for (int y = 0; y < 6; y++) shore(x, 9, y, 16, 0);
        for (int y = 0; y < 6; y++) shore(x, 0, y, 16, 0);
        currentAllYear(x, 55, 33);
        for (int n = 0; n < 6; n++) x.name(9, 5, 0);
        for (int c = 0; c < 5; c++) x.cast(0, 1000 * c, 1000, 0, place(7, c), 0);
        due("all of 1000 cards of 5 casts in 6 names", x.misses(), 30L * 1000000 * 1000000);
        due("with all shifts it is so", x.misfit(), 30L * 1000000 * 1000000);
        due("the first of all", x.fit(0), -1);
        for (int f = 0; f < 16; f++) x.find(0x1000 + Integer.parseInt("" + f, 16), 0, 5, 0, 60);
        due("16 got of one cast in one name", x.misses(), 29L * 1000000 * 1000000 + 984000L * 984000L);
        due("none of them would turn it", x.doubt(0), 0);
    }

    /** So many cards land with shift 1 of region 0 (as told) and with no other; so many of them were found. */
    private static Counted landing(int cards, int finds) {
        Counted x = new Counted();
        shore(x, 5, 1, 16, 0);
        x.current(0, 0, 33, 44);
        x.move(0, 1);
        x.name(9, 5, 0);
        x.cast(0, 0, cards, 0, place(4, 0), 0);
        for (int f = 0; f < finds; f++) x.find(Integer.parseInt("" + f, 16), 0, 0, 0, 60);
        return x;
    }

    private static void doubtOfThree() {
        says("DOUBT of a REGION: the latest 3 FINDS, at most, that are SURE (not OUT, no TWINS)");
        for (int finds = 1; finds <= 16; finds++) {
            int most = Math.min(3, finds);
            if (finds > 2) due(finds + " of three cards less", landing(2 * finds - 3, finds).doubt(0), 0);
            if (finds > 1) due(finds + " of two cards less", landing(2 * finds - 2, finds).doubt(0), most);
            due(finds + " of one card less", landing(2 * finds - 1, finds).doubt(0), most);
            due(finds + " of twice as many: not landing is as good", landing(2 * finds, finds).doubt(0), 0);
            due(finds + " of one card less: it fits", landing(2 * finds - 1, finds).fit(0), 1);
            due(finds + " of twice as many: it does not", landing(2 * finds, finds).fit(0), -1);
        }
        due("no finds", landing(1, 0).doubt(0), 0);
        due("another region is not turned", landing(7, 4).doubt(1) + landing(7, 4).doubt(2), 0);
    }

    private static void doubtOfLatest() {
        says("how many of them, each left out alone (it is not GOT then), turn FIT of that REGION");
        Counted x = new Counted();
        for (int r = 0; r < 2; r++) {
            x.paint(0, 9, 3 * r, 1, r);
            x.paint(0, 9, 3 * r + 1, 1, r);
            shore(x, 5, 3 * r + 1, 16, 0);
            x.current(r, 0, 33, 44);
            x.move(r, 1);
        }
        for (int r = 0; r < 2; r++) x.cast(0, 100 * r, 1, 0, place(4, 3 * r), 0);
        x.name(9, 5, 0);
        x.find(0x0000, 0, 0, 0, 60);
        due("one of region 0", 10 * x.doubt(0) + x.doubt(1), 10);
        x.find(0x0100, 0, 0, 0, 60);
        due("one of each", 10 * x.doubt(0) + x.doubt(1), 11);
        x.find(0x0000, 0, 0, 0, 60);
        due("a twin is none of the three", 10 * x.doubt(0) + x.doubt(1), 11);
        x.find(0x0200, 0, 0, 0, 60);
        due("one that fits no cast is none", 10 * x.doubt(0) + x.doubt(1), 11);
        x.find(0xAAAA, 0, 0, 0, 60);
        due("one that several casts weigh for is none", 10 * x.doubt(0) + x.doubt(1), 11);
        x.find(0x0000, 0, 0, 60, 60);
        x.drop(5, 1);
        due("one that is out is none", 10 * x.doubt(0) + x.doubt(1), 11);
        x.drop(0, 1);
        due("the first is out: its twin is one", 10 * x.doubt(0) + x.doubt(1), 11);
        x.drop(2, 1);
        due("that is out, too", 10 * x.doubt(0) + x.doubt(1), 1);
        x.drop(0, 0);
        x.drop(2, 0);
        due("a twin does not come up for the one left out", 10 * x.doubt(0) + x.doubt(1), 11);
        fourthLatest();
    }

    /** Three finds of region 1 behind one of region 0: the one of region 0 is the fourth latest. */
    private static void fourthLatest() {
        Counted x = new Counted();
        for (int r = 0; r < 2; r++) {
            x.paint(0, 9, 3 * r, 1, r);
            x.paint(0, 9, 3 * r + 1, 1, r);
            shore(x, 5, 3 * r + 1, 16, 0);
            x.current(r, 0, 33, 44);
            x.move(r, 1);
        }
        x.cast(0, 0, 1, 0, place(4, 0), 0);
        x.cast(0, 100, 5, 0, place(4, 3), 0);
        x.name(9, 5, 0);
        x.find(0x0000, 0, 0, 0, 60);
        x.find(0x0100, 0, 0, 0, 60);
        x.find(0x0101, 0, 0, 0, 60);
        due("the third latest", x.doubt(0), 1);
        due("two of five do not fit", x.fit(1), -1);
        x.find(0x0102, 0, 0, 0, 60);
        due("the fourth latest is none of the three", x.doubt(0), 0);
        due("each of the three turns it", x.doubt(1), 3);
        x.drop(2, 1);
        due("one is out: the third latest again", x.doubt(0), 1);
        x.find(0x0101, 0, 0, 60, 60);
        due("a fake of another number is none of the three", x.doubt(0), 1);
    }

    private static void doubtRefuses() {
        says("DOUBT. NONE.");
        Counted x = landing(1, 1);
        int[] not = {-1, 3, LOW, HIGH};
        for (int region : not) due("region " + region, x.doubt(region), NONE);
        due("the first", x.doubt(0), 1);
        due("the last", x.doubt(2), 0);
    }

    private static void tellsRefuses() {
        says("TELLS. NONE: place, month, REGION; BAD: KIND; STATE: no WATER.");
        Counted x = new Counted();
        x.paint(9, 9, 5, 0, 1);
        x.paint(9, 9, 4, 0, 2);
        int[] noPlace = {-1, 60, LOW, HIGH};
        for (int p : noPlace) due("place " + p, x.tells(0, 0, p, 0), NONE);
        int[] noMonth = {-1, 48, LOW, HIGH};
        for (int month : noMonth) due("month " + month, x.tells(0, month, 0, 0), NONE);
        int[] noRegion = {-1, 3, LOW, HIGH};
        for (int region : noRegion) due("region " + region, x.tells(0, 0, 0, region), NONE);
        int[] noKind = {-1, 2, 4, LOW, HIGH};
        for (int kind : noKind) due("kind " + kind, x.tells(kind, 0, 0, 0), BAD);
        due("shore", x.tells(0, 0, 59, 0), STATE);
        due("land", x.tells(0, 0, 58, 0), STATE);
        due("the first of all", x.tells(0, 0, 0, 0), 0);
        due("the last of all", x.tells(3, 47, 57, 2), 0);
        due("nothing was cast", x.count(0), 0);
    }

    private static void tellsByKind() {
        says("TELLS: a CAST of a KIND (0, 1, 3) in a month and CELL of WATER, by a REGION");
        int[] months = {0, 11, 12, 47};
        for (int month : months) {
            Counted x = new Counted();
            shore(x, 9, 0, 16, 0);
            x.storm(month, 1, 0);
            x.paint(0, 9, 0, 4, 4095 - (1 << month % 12));
            due("a flat one off by 1", x.tells(0, month, place(8, 0), 0), 100000);
            due("a bottle off by 2", x.tells(1, month, place(7, 0), 0), 100000);
            due("a bottle off by 1", x.tells(1, month, place(8, 0), 0), 200000);
            due("a sail off by 3", x.tells(3, month, place(6, 0), 0), 100000);
            due("a sail off by 2", x.tells(3, month, place(7, 0), 0), 200000);
            due("a sail off by 1: all land", x.tells(3, month, place(8, 0), 0), 0);
            due("a sail off by 4: none lands", x.tells(3, month, place(5, 0), 0), 0);
        }
    }

    /** The last cell ahead of the shore is of region 1: of 61 parts there 15 land with shift 0, all with 1, none with -1. */
    private static void tellsIsCut() {
        says("in each CELL how far PARTS FOUND there (12 months) are off from those with SHIFT -1, without sign, by 10, cut; together.");
        int[] walked = {0, 2, 3, 10, 11, 16};
        int[] want = {0, 0, 1, 3, 5, 7};
        for (int i = 0; i < 6; i++) {
            Counted x = fifteenAshore(walked[i], 16);
            x.paint(7, 7, 0, 1, 1);
            x.paint(7, 7, 0, 4, 4095 & ~255);
            for (int month = 0; month < 8; month++) x.current(1, month, 34, 33);
            due("walked " + walked[i], x.tells(0, 0, 0, 1), want[i]);
        }
        Counted less = new Counted();
        shore(less, 0, 0, 16, 0);
        less.paint(0, 9, 0, 4, 4094);
        due("without sign: it lands with -1 alone", less.tells(0, 0, place(1, 0), 0), 200000);
        less.current(0, 0, 22, 33);
        due("it lands with 0, too", less.tells(0, 0, place(1, 0), 0), 100000);
    }

    private static void tellsInTwelveMonths() {
        says("how far PARTS FOUND there (12 months)");
        Counted x = new Counted();
        shore(x, 5, 1, 16, 0);
        x.paint(4, 4, 0, 4, 2047);
        x.current(0, 11, 33, 44);
        due("the 12th month", x.tells(0, 0, place(4, 0), 0), 100000);
        due("the 11th month", x.tells(0, 1, place(4, 0), 0), 100000);
        due("the first month", x.tells(0, 11, place(4, 0), 0), 100000);
        Counted late = new Counted();
        shore(late, 5, 1, 16, 0);
        late.paint(4, 4, 0, 4, 4095 - 2);
        late.storm(25, 0, 1);
        due("the 13th month", late.tells(1, 13, place(4, 0), 0), 0);
        late.storm(24, 0, 1);
        late.paint(4, 4, 0, 4, 4095 - 1);
        due("the 12th month", late.tells(1, 13, place(4, 0), 0), 100000);
    }

    private static void tellsOfOneRegion() {
        says("for its SHIFT 0 and 1 (others as told)");
        for (int told = -1; told <= 1; told++) {
            Counted x = new Counted();
            shore(x, 9, 0, 16, 0);
            x.paint(0, 9, 0, 1, 2);
            x.paint(0, 9, 0, 4, 4094);
            x.move(2, told);
            due("its own, told as " + told, x.tells(0, 0, place(8, 0), 2), 100000);
            due("another's", x.tells(0, 0, place(8, 0), 1), 0);
            due("it stays as told", x.move(2, told), told);
            Counted two = new Counted();
            two.paint(0, 9, 0, 1, 0);
            two.paint(0, 9, 1, 1, 1);
            two.paint(0, 9, 2, 4, 4095);
            two.current(0, 0, 33, 44);
            two.current(1, 1, 33, 44);
            shore(two, 5, 2, 16, 0);
            two.move(1, told);
            due("lands if both together are 1, the other told as " + told, two.tells(0, 0, place(4, 0), 0), told == -1 ? 0 : 100000);
        }
    }

    /** Cast 0 lands at (9, 0), where all is found; cast 1 at (9, 1), where in 12 months 999755 of its parts are found. */
    private static void missedOfEachCastAndName() {
        says("MISSED: for each CAST and NAME: PARTS of its DRIFT FOUND in CELLS of the NAME (in its 12 months), "
            + "times its CARDS, by 1000, cut, less 1000 times what it GOT there (as of 999); squares of that, together.");
        Counted x = new Counted();
        shore(x, 9, 0, 16, 0);
        shore(x, 9, 1, 8, 0);
        currentAllYear(x, 44, 33);
        x.cast(0, 100, 100, 0, place(8, 0), 0);
        x.cast(0, 200, 30, 0, place(8, 1), 0);
        due("no names", x.misses(), 0);
        x.name(909, 0, 0);
        due("cast 0 alone is found there", x.misses(), 100000L * 100000);
        x.name(909, 101, 0);
        due("cast 1 in the other", x.misses(), 100000L * 100000 + 29992L * 29992);
        x.name(9, 5, 0);
        due("both in all", x.misses(), 2 * (100000L * 100000 + 29992L * 29992));
        x.find(0x0100, 0, 0, 0, 60);
        x.find(0x0101, 0, 0, 0, 60);
        x.find(0x0102, 0, 2, 0, 60);
        for (int f = 0; f < 3; f++) x.find(0x0200 + f, 0, 1, 0, 60);
        due("what each got in each is less", x.misses(), 98000L * 98000 + 99000L * 99000 + 26992L * 26992 + 29992L * 29992);
        x.find(0x0103, 0, 1, 0, 60);
        due("a fake is not got", x.misses(), 98000L * 98000 + 99000L * 99000 + 26992L * 26992 + 29992L * 29992);
        for (int f = 0; f < 9; f++) x.find(0x0210 + f, 0, 2, 0, 60);
        due("nine in all", x.misses(), 98000L * 98000 + 99000L * 99000 + 26992L * 26992 + 20992L * 20992);
    }

    /**
     * Three casts, one of each region, in a sea with shores at both ends. Each is sure to land somewhere with all shifts, so
     * who is sure does not hang on the shifts that are told, and those can be told one after the other.
     */
    private static Counted between(int way) {
        Counted x = new Counted();
        for (int y = 0; y < 6; y++) {
            x.paint(0, 9, y, 1, y / 2);
            shore(x, 9, y, 4 + (y + way) % 12, y % 3);
            shore(x, 0, y, 15 - (y * way) % 12, y % 2);
        }
        for (int month = 0; month < 12; month++) {
            x.current(0, month, (month + way) % 2 == 0 ? 25 : 14, 33);
            x.current(1, month, way % 3 == 0 ? 14 : 25, (month + way) % 3 == 0 ? 34 : 23);
            x.current(2, month, way % 2 == 0 ? 35 : 13, month % 4 == way % 4 ? 22 : 33);
        }
        for (int c = 0; c < 3; c++) x.cast(0, 100 * c, 2 + (way + c) % 4, way, place(3 + (way + c) % 4, 2 * c), 0);
        x.name(9, 5, 0);
        if (way % 3 > 0) x.name(909, 5, 0);
        for (int f = 0; f < 7; f++) {
            int c = (f * (way / 3 + 1) + way) % 3;
            x.find(0xA000 | c << 8 | f % 2, 0, 0, 0, 60);
            if ((f + way) % 3 == 0) x.find(0x9000 | c << 8, 0, 0, 0, 60);
        }
        return x;
    }

    private static void missedWithShifts() {
        says("MISSED with the SHIFTS of FIT.");
        says("MISSED with the SHIFTS that are told.");
        says("the ones with the least MISSED, the first of several");
        int turned = 0;
        for (int way = 0; way < 24; way++) {
            Counted x = between(way);
            int finds = x.count(2);
            int[] verdict = new int[finds];
            for (int f = 0; f < finds; f++) verdict[f] = x.judge(f);
            long least = x.misfit();
            int[] fit = {x.fit(0), x.fit(1), x.fit(2)};
            int first = -1;
            for (int all = 0; all < 27; all++) {
                x.move(0, all / 9 - 1);
                x.move(1, all / 3 % 3 - 1);
                x.move(2, all % 3 - 1);
                for (int f = 0; f < finds; f++) {
                    if (all % 13 == 0) due("who is sure stays, find " + f, x.judge(f), verdict[f]);
                }
                long missed = x.misses();
                due("way " + way + ", shifts " + all + ": not less than the least", missed < least ? 1 : 0, 0);
                if (missed == least && first < 0) first = all;
                due("way " + way + ": it hangs on no shifts told", x.misfit(), least);
            }
            due("way " + way + ": with those of fit it is the least", first, 9 * (fit[0] + 1) + 3 * (fit[1] + 1) + fit[2] + 1);
            if (first != 0) turned++;
        }
        due("not all fit with the first of all shifts", turned > 12 ? 1 : 0, 1);
    }

    private static void doubtByDropping() {
        says("DOUBT of a REGION: the latest 3 FINDS, at most, that are SURE (not OUT, no TWINS): "
            + "how many of them, each left out alone (it is not GOT then), turn FIT of that REGION.");
        int all = 0;
        for (int way = 0; way < 24; way++) {
            Counted x = between(way);
            int[] turns = new int[3];
            int[] fit = {x.fit(0), x.fit(1), x.fit(2)};
            int seen = 0;
            for (int f = x.count(2) - 1; f >= 0 && seen < 3; f--) {
                if (x.judge(f) != 2) continue;
                seen++;
                x.drop(f, 1);
                for (int r = 0; r < 3; r++) if (x.fit(r) != fit[r]) turns[r]++;
                x.drop(f, 0);
            }
            for (int r = 0; r < 3; r++) due("way " + way + ", region " + r, x.doubt(r), turns[r]);
            all += turns[0] + turns[1] + turns[2];
        }
        due("some are turned", all > 12 ? 1 : 0, 1);
    }

    private static void tellsByCasting() {
        says("TELLS: a CAST of a KIND (0, 1, 3) in a month and CELL of WATER, by a REGION: for its SHIFT 0 and 1 (others as told): "
            + "in each CELL how far PARTS FOUND there (12 months) are off from those with SHIFT -1, without sign, by 10, cut; together.");
        int[] kinds = {0, 1, 3};
        int some = 0;
        for (int way = 0; way < 27; way++) {
            Counted x = between(way);
            int region = way % 3;
            int kind = kinds[way / 3 % 3];
            int at = place(3 + way % 5, way % 6);
            for (int month = 0; month < 12; month++) x.wind(month, month % 3 - 1, (month + way) % 3 - 1);
            for (int r = 0; r < 3; r++) x.move(r, (way + r) % 3 - 1);
            int told = x.tells(kind, 40, at, region);
            int c = x.cast(kind, 5000, 1, 40, at, 0);
            int sum = 0;
            int[][] found = new int[3][12];
            for (int shift = 0; shift < 3; shift++) {
                x.move(region, shift - 1);
                for (int i = 0; i < 12; i++) {
                    found[shift][i] = x.partsAt(c, 12, i < 6 ? 0 : 9, i % 6, 2);
                    if (shift > 0) sum += Math.abs(found[shift][i] - found[0][i]) / 10;
                }
            }
            due("way " + way, told, sum);
            if (told > 0) some++;
        }
        due("most tell something", some > 20 ? 1 : 0, 1);
    }
}
