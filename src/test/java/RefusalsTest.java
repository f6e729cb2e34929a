import java.util.ArrayList;
import java.util.List;

/** Part 6 of the document: of several refusals the one that is told first, and that they change nothing. */
public final class RefusalsTest extends Bounds {
    private static final int LOOKS = 4;

    interface Call {
        long on(Counted x);
    }

    interface Maker {
        Counted make();
    }

    private static Maker state;
    private static String stateName;
    private static long[][] asItWas;

    public static void main(String[] args) {
        within("nothing told", States::empty);
        ofNothing();
        within("some told", States::some);
        sea();
        casts();
        finds();
        shifts();
        prizes();
        within("all full", States::full);
        full();
        end();
    }

    private static void within(String name, Maker maker) {
        state = maker;
        stateName = name;
        asItWas = new long[LOOKS][];
        for (int look = 0; look < LOOKS; look++) asItWas[look] = lookAt(warm(), look);
    }

    /** What is kept from earlier calls must not come to be wrong either: so there is something kept. */
    private static Counted warm() {
        Counted x = state.make();
        x.misfit();
        x.judge(0);
        x.apart(0, 1);
        return x;
    }

    /** A call that is refused, alone on an object of the state: it answers so, and nothing is other behind it. */
    private static void refused(String what, long want, Call call) {
        for (int look = 0; look < LOOKS; look++) {
            Counted x = warm();
            due(stateName + ": " + what, call.on(x), want);
            due(stateName + ": " + what + " changes nothing, look " + look, firstOther(asItWas[look], lookAt(x, look)), -1);
        }
    }

    private static int firstOther(long[] was, long[] is) {
        for (int i = 0; i < was.length; i++) {
            if (was[i] != is[i]) return i;
        }
        return -1;
    }

    private static long[] lookAt(Counted x, int look) {
        List<Long> seen = new ArrayList<>();
        switch (look) {
            case 0: lookAtCells(x, seen); break;
            case 1: lookAtDrifts(x, seen); break;
            case 2: lookAtFinds(x, seen); break;
            default: tellMore(x, seen);
        }
        return seen.stream().mapToLong(v -> v).toArray();
    }

    private static void lookAtCells(Counted x, List<Long> seen) {
        for (int i = 0; i < 60; i++) {
            for (int what = 0; what < 5; what++) {
                if (what < 2 || i >= 50 || i % 3 == 0) seen.add((long) x.cell(i / 6, i % 6, what));
            }
        }
    }

    private static void lookAtDrifts(Counted x, List<Long> seen) {
        for (int c = 0; c < 6; c++) {
            for (int what = 0; what < 6; what++) {
                seen.add((long) x.about(c, what));
                seen.add((long) x.parts(c, 12, what));
            }
            for (int cx = 3; cx < 10; cx++) {
                seen.add((long) x.partsAt(c, 3, cx, 2, 0));
                seen.add((long) x.partsAt(c, 12, cx, 1, cx < 9 ? 0 : 2));
            }
            for (int d = 0; d < 5; d++) seen.add((long) x.apart(c, d));
        }
    }

    private static void lookAtFinds(Counted x, List<Long> seen) {
        for (int what = 0; what < 8; what++) seen.add((long) x.count(what));
        for (int f = 0; f < 17; f++) {
            for (int c = 0; c < 5; c++) seen.add((long) x.weight(f, c));
            seen.add((long) x.judge(f));
            seen.add((long) x.best(f));
            seen.add((long) x.cards(f));
            seen.add((long) x.twin(f));
            seen.add((long) x.pays(f));
        }
        for (int c = 0; c < 5; c++) {
            seen.add((long) x.got(c, -1, 999));
            seen.add((long) x.got(c, c, 6));
        }
        for (int region = 0; region < 3; region++) {
            seen.add((long) x.fit(region));
            seen.add((long) x.doubt(region));
            seen.add((long) x.tells(1, 40, 14, region));
        }
        seen.add(x.misfit());
        seen.add(x.misses());
        for (int tongue = 0; tongue < 6; tongue++) seen.add((long) x.letters(tongue, 500));
        seen.add((long) x.purse(0));
        seen.add((long) x.purse(999));
    }

    /** What is told next, and what it answers: rows, shifts, time, the tape, the numbers that come next. */
    private static void tellMore(Counted x, List<Long> seen) {
        for (int kind = 0; kind < 4; kind++) {
            for (int month = 0; month < 12; month++) seen.add((long) x.tells(kind, month, 15, month % 3));
        }
        for (int month = 0; month < 48; month++) seen.add((long) x.calm(month));
        for (int month = 0; month < 12; month++) seen.add((long) x.tells(3, month, 25, month % 3));
        for (int region = 0; region < 3; region++) seen.add((long) x.move(region, 0));
        for (int f = 0; f < 16; f++) seen.add((long) x.drop(f, 1));
        seen.add((long) x.clock(999));
        seen.add((long) x.feed(0x7A65203135L, 5));
        seen.add((long) x.prize());
        seen.add((long) x.prize());
        seen.add((long) x.name(9, 5, 0));
        seen.add((long) x.cast(0, 5000, 1000, 0, 6, 0));
        seen.add((long) x.cast(0, 5000, 1000, 0, 6, 300));
        seen.add((long) x.find(0x5000, 0, 0, 0, 60));
        seen.add((long) x.paint(0, 9, 0, 0, 1));
        for (int what = 0; what < 8; what++) seen.add((long) x.count(what));
    }

    private static void ofNothing() {
        says("They change nothing.");
        refused("about", NONE, x -> x.about(0, 0));
        refused("parts", NONE, x -> x.parts(0, 0, 0));
        refused("parts behind 13 months", NONE, x -> x.parts(0, 13, 0));
        refused("partsAt", NONE, x -> x.partsAt(0, 0, 0, 0, 0));
        refused("apart", NONE, x -> x.apart(0, 1));
        refused("find", NONE, x -> x.find(0, 0, 0, 0, 0));
        refused("drop", NONE, x -> x.drop(0, 1));
        refused("weight", NONE, x -> x.weight(0, 0));
        refused("judge", NONE, x -> x.judge(0));
        refused("best", NONE, x -> x.best(0));
        refused("cards", NONE, x -> x.cards(0));
        refused("twin", NONE, x -> x.twin(0));
        refused("got", NONE, x -> x.got(0, -1, 0));
        refused("pays", NONE, x -> x.pays(0));
        refused("paint", BAD, x -> x.paint(0, 9, 0, 0, 3));
        refused("cast", BAD, x -> x.cast(0, 0, 0, 0, 6, 0));
        refused("name", BAD, x -> x.name(9, 5, 6));
        refused("clock", BAD, x -> x.clock(1000));
        refused("feed", BAD, x -> x.feed(0x70, 9));
        refused("an empty tape", -10, x -> x.prize());
    }

    private static void sea() {
        says("REFUSALS, of several the first one told: NONE there is no such CELL, REGION, month of the year, CAST, NAME, FIND, CASTER, TONGUE, "
            + "what; BAD a number is not as told; STATE as told; FULL. They change nothing.");
        refused("paint: NONE of x0", NONE, x -> x.paint(-1, 9, 0, 3, 1));
        refused("paint: NONE of x1", NONE, x -> x.paint(0, 10, 0, 3, 1));
        refused("paint: NONE of y", NONE, x -> x.paint(0, 9, 6, 3, 1));
        refused("paint: NONE, x0 above x1", NONE, x -> x.paint(9, 0, 0, 3, 1));
        refused("paint: NONE of what", NONE, x -> x.paint(0, 9, 0, 5, 1));
        refused("paint: BAD", BAD, x -> x.paint(0, 9, 0, 3, 17));
        refused("paint: BAD ice", BAD, x -> x.paint(0, 9, 0, 4, 4096));
        refused("paint: BAD region", BAD, x -> x.paint(0, 9, 0, 1, 3));
        refused("paint: BAD sand", BAD, x -> x.paint(0, 9, 0, 2, -1));
        refused("paint: STATE", STATE, x -> x.paint(0, 9, 0, 0, 1));
        refused("paint: NONE of a cell ahead of BAD", NONE, x -> x.paint(0, 10, 0, 3, 17));
        refused("paint: NONE of what ahead of BAD", NONE, x -> x.paint(0, 9, 0, 5, -1));
        refused("paint: NONE, x0 above x1, ahead of BAD", NONE, x -> x.paint(1, 0, 0, 3, 17));
        refused("paint: NONE ahead of STATE", NONE, x -> x.paint(0, 10, 0, 0, 1));
        refused("paint: NONE, x0 above x1, ahead of STATE", NONE, x -> x.paint(1, 0, 0, 0, 1));
        refused("paint: BAD ahead of STATE", BAD, x -> x.paint(0, 9, 0, 0, 3));
        refused("paint: NONE ahead of BAD and STATE", NONE, x -> x.paint(0, 9, -1, 0, -1));
        refused("cell: NONE", NONE, x -> x.cell(10, 0, 0));
        refused("cell: NONE of what", NONE, x -> x.cell(0, 0, 5));
        refused("current: NONE of region", NONE, x -> x.current(3, 0, 44, 44));
        refused("current: NONE of month", NONE, x -> x.current(0, 12, 44, 44));
        refused("current: BAD east", BAD, x -> x.current(0, 2, 43, 44));
        refused("current: BAD north", BAD, x -> x.current(0, 2, 44, 67));
        refused("current: NONE of region ahead of BAD", NONE, x -> x.current(-1, 0, 43, 44));
        refused("current: NONE of month ahead of BAD", NONE, x -> x.current(0, -1, 44, 43));
        refused("wind: NONE", NONE, x -> x.wind(12, 1, 1));
        refused("wind: BAD east", BAD, x -> x.wind(2, 4, 1));
        refused("wind: BAD north", BAD, x -> x.wind(2, 1, -4));
        refused("wind: NONE ahead of BAD", NONE, x -> x.wind(-1, 4, 1));
        refused("storm: NONE", NONE, x -> x.storm(48, 1, 1));
        refused("storm: BAD east, a row there", BAD, x -> x.storm(3, -4, 1));
        refused("storm: BAD north, no row there", BAD, x -> x.storm(4, 1, 4));
        refused("storm: NONE ahead of BAD", NONE, x -> x.storm(-1, 4, 1));
        refused("calm: NONE", NONE, x -> x.calm(48));
        refused("calm: NONE", NONE, x -> x.calm(-1));
    }

    private static void casts() {
        says("NONE: place, month; BAD: KIND, NUMBERS, n, more; STATE: no WATER, or a NUMBER of that CASTER was cast; FULL.");
        refused("NONE of place", NONE, x -> x.cast(0, 300, 1, 0, 60, 0));
        refused("NONE of month", NONE, x -> x.cast(0, 300, 1, 48, 6, 0));
        refused("BAD kind", BAD, x -> x.cast(4, 300, 1, 0, 6, 0));
        refused("BAD first", BAD, x -> x.cast(0, 10000, 1, 0, 6, 0));
        refused("BAD last", BAD, x -> x.cast(0, 9999, 2, 0, 6, 0));
        refused("BAD n", BAD, x -> x.cast(0, 300, 1001, 0, 6, 0));
        refused("BAD caster", BAD, x -> x.cast(0, 300, 1, 0, 6, 400));
        refused("BAD months", BAD, x -> x.cast(2, 300, 1, 0, 6, 13));
        refused("BAD months of a bottle", BAD, x -> x.cast(1, 300, 1, 0, 6, 1));
        refused("STATE of shore", STATE, x -> x.cast(0, 300, 1, 0, 54, 0));
        refused("STATE of land", STATE, x -> x.cast(0, 300, 1, 0, 57, 0));
        refused("STATE of a number", STATE, x -> x.cast(0, 139, 1, 0, 6, 0));
        int[][] bad = {{4, 300, 1, 0}, {0, -1, 1, 0}, {0, 300, 0, 0}, {0, 300, 1, -1}, {2, 300, 1, 0}};
        for (int[] b : bad) {
            refused("NONE of place ahead of BAD", NONE, x -> x.cast(b[0], b[1], b[2], 0, -1, b[3]));
            refused("NONE of month ahead of BAD", NONE, x -> x.cast(b[0], b[1], b[2], -1, 6, b[3]));
            refused("BAD ahead of STATE of shore", BAD, x -> x.cast(b[0], b[1], b[2], 0, 54, b[3]));
        }
        refused("NONE of month ahead of STATE of land", NONE, x -> x.cast(0, 300, 1, 48, 57, 0));
        refused("NONE of month ahead of STATE of a number", NONE, x -> x.cast(0, 100, 1, 48, 6, 0));
        refused("NONE of place ahead of STATE of a number", NONE, x -> x.cast(0, 100, 1, 0, 60, 0));
        refused("BAD kind ahead of STATE of a number", BAD, x -> x.cast(-1, 100, 1, 0, 6, 0));
        refused("BAD n ahead of STATE of a number", BAD, x -> x.cast(0, 100, 1001, 0, 6, 0));
        refused("BAD more ahead of STATE of a number", BAD, x -> x.cast(0, 100, 1, 0, 6, 1));
        says("NONE; BAD.");
        refused("about: NONE of cast", NONE, x -> x.about(3, 0));
        refused("about: NONE of what", NONE, x -> x.about(0, 6));
        refused("parts: NONE of cast", NONE, x -> x.parts(3, 0, 0));
        refused("parts: NONE of what", NONE, x -> x.parts(0, 0, 6));
        refused("parts: BAD", BAD, x -> x.parts(0, 13, 0));
        refused("parts: NONE of cast ahead of BAD", NONE, x -> x.parts(-1, 13, 0));
        refused("parts: NONE of what ahead of BAD", NONE, x -> x.parts(0, -1, 6));
        refused("partsAt: NONE of cell", NONE, x -> x.partsAt(0, 0, 10, 0, 0));
        refused("partsAt: BAD", BAD, x -> x.partsAt(0, 13, 0, 0, 0));
        refused("partsAt: NONE of cast ahead of BAD", NONE, x -> x.partsAt(3, 13, 0, 0, 0));
        refused("partsAt: NONE of x ahead of BAD", NONE, x -> x.partsAt(0, -1, -1, 0, 0));
        refused("partsAt: NONE of y ahead of BAD", NONE, x -> x.partsAt(0, 13, 0, 6, 0));
        refused("partsAt: NONE of what ahead of BAD", NONE, x -> x.partsAt(0, 13, 0, 0, 3));
        says("NONE (c is d, too); STATE: not within 12.");
        refused("apart: NONE of c", NONE, x -> x.apart(3, 0));
        refused("apart: NONE of d", NONE, x -> x.apart(0, 3));
        refused("apart: NONE, c is d, which are never apart", NONE, x -> x.apart(0, 0));
    }

    private static void finds() {
        says("NONE: CELLS; BAD: x0 above x1, y0 above y1, tongue; FULL.");
        refused("name: NONE of x", NONE, x -> x.name(10, 5, 0));
        refused("name: NONE of y", NONE, x -> x.name(9, 6, 0));
        refused("name: BAD x", BAD, x -> x.name(100, 5, 0));
        refused("name: BAD y", BAD, x -> x.name(9, 100, 0));
        refused("name: BAD tongue", BAD, x -> x.name(9, 5, 6));
        refused("name: NONE of x ahead of BAD y", NONE, x -> x.name(1000, 100, 0));
        refused("name: NONE of y ahead of BAD x", NONE, x -> x.name(100, 600, 0));
        refused("name: NONE of x, x0 above x1, too", NONE, x -> x.name(1009, 5, 0));
        refused("name: NONE of y, y0 above y1, too", NONE, x -> x.name(9, 605, 0));
        refused("name: NONE ahead of BAD tongue", NONE, x -> x.name(10, 5, -1));
        says("NONE: NAME, CASTER; BAD; FULL.");
        refused("find: NONE of name", NONE, x -> x.find(0, 0, 3, 0, 0));
        refused("find: NONE of caster", NONE, x -> x.find(0, 4, 0, 0, 0));
        refused("find: BAD row", BAD, x -> x.find(0xB, 0, 0, 0, 0));
        refused("find: BAD from", BAD, x -> x.find(0, 0, 0, -1, 0));
        refused("find: BAD to", BAD, x -> x.find(0, 0, 0, 0, 61));
        refused("find: BAD, from above to", BAD, x -> x.find(0, 0, 0, 1, 0));
        refused("find: NONE of name ahead of BAD row", NONE, x -> x.find(0xB, 0, -1, 0, 0));
        refused("find: NONE of name ahead of BAD months", NONE, x -> x.find(0, 0, 3, 1, 0));
        refused("find: NONE of caster ahead of BAD row", NONE, x -> x.find(-1, -1, 0, 0, 0));
        refused("find: NONE of caster ahead of BAD months", NONE, x -> x.find(0, 4, 0, 0, 61));
        says("TIME becomes t, not less than it was: what it was. BAD.");
        refused("clock: BAD, back", BAD, x -> x.clock(6));
        refused("clock: BAD, behind the last", BAD, x -> x.clock(1000));
        says("A FIND is OUT (1), not (0): what it was. NONE; BAD.");
        refused("drop: NONE", NONE, x -> x.drop(6, 1));
        refused("drop: BAD of one not out", BAD, x -> x.drop(0, 2));
        refused("drop: BAD of one out", BAD, x -> x.drop(5, -1));
        refused("drop: NONE ahead of BAD", NONE, x -> x.drop(-1, 2));
        refused("weight: NONE of find", NONE, x -> x.weight(6, 0));
        refused("weight: NONE of cast", NONE, x -> x.weight(0, 3));
        refused("judge: NONE", NONE, x -> x.judge(6));
        refused("best: NONE", NONE, x -> x.best(6));
        refused("best: NONE, none there", NONE, x -> x.best(4));
        refused("cards: NONE", NONE, x -> x.cards(6));
        refused("twin: NONE", NONE, x -> x.twin(6));
        refused("twin: NONE, none there", NONE, x -> x.twin(0));
        says("GOT (name -1: any). NONE; BAD: asOf (0 .. 999).");
        refused("got: NONE of cast", NONE, x -> x.got(3, -1, 0));
        refused("got: NONE of name", NONE, x -> x.got(0, 3, 0));
        refused("got: BAD", BAD, x -> x.got(0, -1, 1000));
        refused("got: NONE of cast ahead of BAD", NONE, x -> x.got(-1, -1, 1000));
        refused("got: NONE of name ahead of BAD", NONE, x -> x.got(0, -2, -1));
    }

    private static void shifts() {
        says("SHIFT of a REGION becomes v: what it was. STATE: there is no such REGION; BAD.");
        refused("move: STATE", STATE, x -> x.move(3, 0));
        refused("move: BAD", BAD, x -> x.move(0, 2));
        refused("move: BAD", BAD, x -> x.move(2, -2));
        refused("move: STATE, told ahead of BAD", STATE, x -> x.move(-1, 2));
        refused("fit: STATE", STATE, x -> x.fit(3));
        refused("doubt: NONE", NONE, x -> x.doubt(3));
        says("TELLS. NONE: place, month, REGION; BAD: KIND; STATE: no WATER.");
        refused("tells: NONE of place", NONE, x -> x.tells(0, 0, 60, 0));
        refused("tells: NONE of month", NONE, x -> x.tells(0, 48, 6, 0));
        refused("tells: NONE of region", NONE, x -> x.tells(0, 0, 6, 3));
        refused("tells: BAD", BAD, x -> x.tells(2, 0, 6, 0));
        refused("tells: STATE of shore", STATE, x -> x.tells(0, 0, 54, 0));
        refused("tells: STATE of land", STATE, x -> x.tells(0, 0, 57, 0));
        refused("tells: NONE of place ahead of BAD", NONE, x -> x.tells(4, 0, -1, 0));
        refused("tells: NONE of month ahead of BAD", NONE, x -> x.tells(2, -1, 6, 0));
        refused("tells: NONE of region ahead of BAD", NONE, x -> x.tells(-1, 0, 6, -1));
        refused("tells: NONE of month ahead of STATE", NONE, x -> x.tells(0, 48, 54, 0));
        refused("tells: NONE of region ahead of STATE", NONE, x -> x.tells(0, 0, 57, 3));
        refused("tells: BAD ahead of STATE", BAD, x -> x.tells(2, 0, 54, 0));
        refused("tells: NONE ahead of BAD and STATE", NONE, x -> x.tells(2, 0, 54, 3));
    }

    private static void prizes() {
        says("BAD: n not 1 .. 8; FULL.");
        refused("feed: BAD", BAD, x -> x.feed(0x70, 0));
        refused("feed: BAD", BAD, x -> x.feed(0x70, 9));
        refused("pays: NONE", NONE, x -> x.pays(6));
        refused("purse: BAD", BAD, x -> x.purse(1000));
        refused("letters: NONE", NONE, x -> x.letters(6, 0));
        refused("letters: BAD", BAD, x -> x.letters(0, -1));
        says("NONE; BAD: asOf.");
        refused("letters: NONE ahead of BAD", NONE, x -> x.letters(-1, 1000));
        refused("count: NONE", NONE, x -> x.count(8));
    }

    private static void full() {
        says("BAD a number is not as told; STATE as told; FULL. They change nothing.");
        refused("cast: FULL", FULL, x -> x.cast(0, 5000, 1, 0, 6, 0));
        refused("cast: NONE of place ahead of FULL", NONE, x -> x.cast(0, 5000, 1, 0, 60, 0));
        refused("cast: NONE of month ahead of FULL", NONE, x -> x.cast(0, 5000, 1, 48, 6, 0));
        refused("cast: BAD kind ahead of FULL", BAD, x -> x.cast(4, 5000, 1, 0, 6, 0));
        refused("cast: BAD first ahead of FULL", BAD, x -> x.cast(0, -1, 1, 0, 6, 0));
        refused("cast: BAD n ahead of FULL", BAD, x -> x.cast(0, 5000, 0, 0, 6, 0));
        refused("cast: BAD more ahead of FULL", BAD, x -> x.cast(0, 5000, 1, 0, 6, 400));
        refused("cast: STATE of shore ahead of FULL", STATE, x -> x.cast(0, 5000, 1, 0, 54, 0));
        refused("cast: STATE of a number ahead of FULL", STATE, x -> x.cast(0, 1999, 1, 0, 6, 0));
        refused("name: FULL", FULL, x -> x.name(9, 5, 0));
        refused("name: NONE ahead of FULL", NONE, x -> x.name(10, 5, 0));
        refused("name: BAD x ahead of FULL", BAD, x -> x.name(100, 5, 0));
        refused("name: BAD y ahead of FULL", BAD, x -> x.name(9, 100, 0));
        refused("name: BAD tongue ahead of FULL", BAD, x -> x.name(9, 5, 6));
        refused("find: FULL", FULL, x -> x.find(0, 0, 0, 0, 0));
        refused("find: NONE of name ahead of FULL", NONE, x -> x.find(0, 0, 6, 0, 0));
        refused("find: NONE of caster ahead of FULL", NONE, x -> x.find(0, 4, 0, 0, 0));
        refused("find: BAD row ahead of FULL", BAD, x -> x.find(0xF, 0, 0, 0, 0));
        refused("find: BAD months ahead of FULL", BAD, x -> x.find(0, 0, 0, 1, 0));
        refused("feed: FULL", FULL, x -> x.feed(0x70, 1));
        refused("feed: FULL", FULL, x -> x.feed(0x70, 8));
        refused("feed: BAD ahead of FULL", BAD, x -> x.feed(0x70, 0));
        refused("feed: BAD ahead of FULL", BAD, x -> x.feed(0x70, 9));
        refused("prize: FULL", FULL, x -> x.prize());
        refused("paint: STATE", STATE, x -> x.paint(0, 9, 0, 0, 1));
        refused("clock: BAD", BAD, x -> x.clock(998));
        refused("drop: NONE", NONE, x -> x.drop(16, 1));
        refused("judge: NONE", NONE, x -> x.judge(16));
        refused("weight: NONE of cast", NONE, x -> x.weight(15, 5));
        refused("got: NONE of cast", NONE, x -> x.got(5, 5, 999));
        refused("got: NONE of name", NONE, x -> x.got(4, 6, 999));
        refused("pays: NONE", NONE, x -> x.pays(16));
        refused("apart: NONE", NONE, x -> x.apart(4, 5));
    }
}
