import java.util.Arrays;

/**
 * Cards cast into a sea, where they drift, land and are found; and what finds tell of the sea.
 * All rows are made in the constructors, so that no call makes an object.
 */
public final class DriftCards {
    public static final int NONE = -1, BAD = -2, STATE = -3, FULL = -4;

    private static final int WIDE = 10, HIGH = 6, CELLS = WIDE * HIGH;
    private static final int WATER = 0, SHORE = 1, LAND = 2;
    private static final int IS = 0, REGION = 1, SAND = 2, WALKED = 3, ICE = 4, MARKS = 5;
    private static final int[] MOST_OF_MARK = {2, 2, 16, 16, 4095};
    private static final int REGIONS = 3, YEAR = 12, ROWS = 48, STRONGEST = 3;
    private static final int BOTTLE = 1, WEIGHTED = 2, SAIL = 3;
    private static final int MOST_CASTS = 5, MOST_CARDS = 1000, LAST_NUMBER = 9999, CASTERS = 4;
    private static final int ALL_PARTS = 1000000, DRIFT_MONTHS = 12;
    private static final int MOST_NAMES = 6, TONGUES = 6;
    private static final int MOST_FINDS = 16, LAST_FIND_MONTH = 60, LAST_TIME = 999;
    private static final int UNREAD = 10, DIGITS = 4, LAST_ROW = 0xFFFF;
    private static final int FAKE = 0, SEVERAL = 1, SURE = 2, STRANGE = 3;
    private static final int ALL_SHIFTS = 27, LATEST = 3;
    private static final int MOST_BYTES = 120, MOST_PRIZES = 8, MOST_TESTS = 3;
    private static final int EQUAL = '=', LESS = '<', MORE = '>';
    private static final int MONTHS_FIELD = 0, FAR_FIELD = 1, KIND_FIELD = 2, TONGUE_FIELD = 3, WEIGHT_FIELD = 4;

    private final Sea sea;
    private final Casts casts;
    private final Names names;
    private final Finds finds;
    private final Drift drift;
    private final Drift otherDrift;
    private final Landings landings;
    private final Reading reading;
    private final Fitting fitting;
    private final Tape tape;
    private final Prizes prizes;
    private int time;

    public DriftCards() {
        sea = new Sea();
        casts = new Casts();
        names = new Names();
        finds = new Finds();
        drift = new Drift(sea);
        otherDrift = new Drift(sea);
        landings = new Landings(sea, casts, drift);
        reading = new Reading(casts, names, finds, landings);
        fitting = new Fitting(sea, casts, names, finds, landings, reading, drift);
        tape = new Tape();
        prizes = new Prizes();
        time = 0;
    }

    // ---- the sea

    public int paint(int x0, int x1, int y, int what, int v) {
        if (!isCell(x0, y) || !isCell(x1, y) || x0 > x1 || !isIndex(what, MARKS)) {
            return NONE;
        }
        if (!isWithin(v, 0, MOST_OF_MARK[what])) {
            return BAD;
        }
        if (what == IS && casts.size > 0) {
            return STATE;
        }
        return sea.putMarks(x0, x1, y, what, v);
    }

    public int cell(int x, int y, int what) {
        if (!isCell(x, y) || !isIndex(what, MARKS)) {
            return NONE;
        }
        return sea.marks[what][placeOf(x, y)];
    }

    public int current(int region, int month, int east, int north) {
        if (!isIndex(region, REGIONS) || !isIndex(month, YEAR)) {
            return NONE;
        }
        if (!isSpan(east) || !isSpan(north)) {
            return BAD;
        }
        sea.putCurrent(region * YEAR + month, east, north);
        return 0;
    }

    public int wind(int month, int east, int north) {
        if (!isIndex(month, YEAR)) {
            return NONE;
        }
        if (!isStrength(east) || !isStrength(north)) {
            return BAD;
        }
        sea.putWind(month, east, north);
        return 0;
    }

    public int storm(int month, int east, int north) {
        if (!isIndex(month, ROWS)) {
            return NONE;
        }
        if (!isStrength(east) || !isStrength(north)) {
            return BAD;
        }
        return sea.putRow(month, true, east, north);
    }

    public int calm(int month) {
        if (!isIndex(month, ROWS)) {
            return NONE;
        }
        return sea.putRow(month, false, 0, 0);
    }

    // ---- casts

    public int cast(int kind, int first, int many, int month, int place, int more) {
        if (!isIndex(place, CELLS) || !isIndex(month, ROWS)) {
            return NONE;
        }
        if (!isWithin(kind, 0, SAIL) || !areNumbers(first, many) || !isMore(kind, more)) {
            return BAD;
        }
        int caster = more / 100;
        if (!sea.isWater(place) || casts.hasNumbers(caster, first, many)) {
            return STATE;
        }
        if (casts.size >= MOST_CASTS) {
            return FULL;
        }
        int c = casts.add(kind, first, many, month, place, caster, more % 100);
        reading.matchCast(c);
        sea.changes++;
        return c;
    }

    public int about(int c, int what) {
        if (!isIndex(c, casts.size)) {
            return NONE;
        }
        switch (what) {
            case 0: return casts.kind[c];
            case 1: return casts.first[c];
            case 2: return casts.many[c];
            case 3: return casts.month[c];
            case 4: return casts.place[c];
            case 5: return casts.caster[c];
            default: return NONE;
        }
    }

    public int parts(int c, int months, int what) {
        if (!isIndex(c, casts.size) || !isWithin(what, 0, 5)) {
            return NONE;
        }
        if (!isWithin(months, 0, DRIFT_MONTHS)) {
            return BAD;
        }
        drift.startCast(casts, c, sea.shift);
        drift.goOn(months);
        return drift.allParts(what);
    }

    public int partsAt(int c, int months, int x, int y, int what) {
        if (!isIndex(c, casts.size) || !isCell(x, y) || !isWithin(what, 0, 2)) {
            return NONE;
        }
        if (!isWithin(months, 0, DRIFT_MONTHS)) {
            return BAD;
        }
        drift.startCast(casts, c, sea.shift);
        drift.goOn(months);
        return drift.partsIn(placeOf(x, y), what);
    }

    public int apart(int c, int d) {
        if (!isIndex(c, casts.size) || !isIndex(d, casts.size) || c == d) {
            return NONE;
        }
        drift.startCast(casts, c, sea.shift);
        otherDrift.startCast(casts, d, sea.shift);
        for (int months = 0; months <= DRIFT_MONTHS; months++) {
            if (!drift.meets(otherDrift)) {
                return months;
            }
            drift.goOn(1);
            otherDrift.goOn(1);
        }
        return STATE;
    }

    // ---- finds

    public int name(int x, int y, int tongue) {
        int x0 = x / 100;
        int x1 = x % 100;
        int y0 = y / 100;
        int y1 = y % 100;
        if (!isCell(x0, y0) || !isCell(x1, y1)) {
            return NONE;
        }
        if (x0 > x1 || y0 > y1 || !isIndex(tongue, TONGUES)) {
            return BAD;
        }
        if (names.size >= MOST_NAMES) {
            return FULL;
        }
        sea.changes++;
        return names.add(x0, x1, y0, y1, tongue);
    }

    public int find(int row, int caster, int name, int from, int to) {
        if (!isIndex(name, names.size) || !isIndex(caster, CASTERS)) {
            return NONE;
        }
        if (!isRow(row) || from < 0 || from > to || to > LAST_FIND_MONTH) {
            return BAD;
        }
        if (finds.size >= MOST_FINDS) {
            return FULL;
        }
        int f = finds.add(row, caster, name, from, to, time);
        reading.matchFind(f);
        return f;
    }

    public int clock(int t) {
        if (t < time || t > LAST_TIME) {
            return BAD;
        }
        int was = time;
        time = t;
        return was;
    }

    public int drop(int f, int is) {
        if (!isIndex(f, finds.size)) {
            return NONE;
        }
        if (!isWithin(is, 0, 1)) {
            return BAD;
        }
        int was = finds.out[f] ? 1 : 0;
        finds.out[f] = is == 1;
        return was;
    }

    public int weight(int f, int c) {
        if (!isIndex(f, finds.size) || !isIndex(c, casts.size)) {
            return NONE;
        }
        landings.refresh();
        return reading.weightOf(f, c);
    }

    public int judge(int f) {
        if (!isIndex(f, finds.size)) {
            return NONE;
        }
        landings.refresh();
        return reading.verdictOf(f);
    }

    public int best(int f) {
        if (!isIndex(f, finds.size)) {
            return NONE;
        }
        landings.refresh();
        return reading.bestOf(f);
    }

    public int cards(int f) {
        if (!isIndex(f, finds.size)) {
            return NONE;
        }
        landings.refresh();
        int c = reading.bestOf(f);
        return c < 0 ? 0 : reading.cardsOf(f, c);
    }

    public int twin(int f) {
        if (!isIndex(f, finds.size)) {
            return NONE;
        }
        return finds.twinOf(f);
    }

    public int got(int c, int name, int asOf) {
        boolean anywhere = name == -1;
        if (!isIndex(c, casts.size) || (!anywhere && !isIndex(name, names.size))) {
            return NONE;
        }
        if (!isTime(asOf)) {
            return BAD;
        }
        landings.refresh();
        int sum = 0;
        for (int f = 0; f < finds.size; f++) {
            boolean there = anywhere || finds.name[f] == name;
            if (there && finds.toldAt[f] <= asOf && reading.castGot(f) == c) {
                sum++;
            }
        }
        return sum;
    }

    // ---- shifts

    public int move(int region, int v) {
        if (!isIndex(region, REGIONS)) {
            return STATE;
        }
        if (!isWithin(v, -1, 1)) {
            return BAD;
        }
        int was = sea.shift[region];
        sea.shift[region] = v;
        sea.changes++;
        return was;
    }

    public int fit(int region) {
        if (!isIndex(region, REGIONS)) {
            return STATE;
        }
        fitting.refreshAll();
        return shiftIn(fitting.leastMissed(), region);
    }

    public long misfit() {
        fitting.refreshAll();
        return fitting.missedWith(fitting.leastMissed());
    }

    public long misses() {
        landings.refresh();
        fitting.countGot();
        int told = fitting.shiftsTold();
        fitting.refreshOne(told);
        return fitting.missedWith(told);
    }

    public int doubt(int region) {
        if (!isIndex(region, REGIONS)) {
            return NONE;
        }
        fitting.refreshAll();
        return fitting.turnsOf(region);
    }

    public int tells(int kind, int month, int place, int region) {
        if (!isIndex(place, CELLS) || !isIndex(month, ROWS) || !isIndex(region, REGIONS)) {
            return NONE;
        }
        if (!isWithin(kind, 0, SAIL) || kind == WEIGHTED) {
            return BAD;
        }
        if (!sea.isWater(place)) {
            return STATE;
        }
        fitting.tryDrift(kind, month, place, region, -1);
        fitting.keepFound();
        int sum = 0;
        for (int shift = 0; shift <= 1; shift++) {
            fitting.tryDrift(kind, month, place, region, shift);
            sum += fitting.offFromKept();
        }
        return sum;
    }

    // ---- prizes

    public int feed(long w, int n) {
        if (!isWithin(n, 1, 8)) {
            return BAD;
        }
        if (tape.size + n > MOST_BYTES) {
            return FULL;
        }
        return tape.append(w, n);
    }

    public int prize() {
        if (prizes.size >= MOST_PRIZES) {
            return FULL;
        }
        boolean isOne = prizes.readFrom(tape);
        int fault = tape.at;
        tape.empty();
        return isOne ? prizes.keepRead() : -10 - fault;
    }

    public int pays(int f) {
        if (!isIndex(f, finds.size)) {
            return NONE;
        }
        landings.refresh();
        return payOf(f);
    }

    public int purse(int asOf) {
        if (!isTime(asOf)) {
            return BAD;
        }
        landings.refresh();
        int sum = 0;
        for (int f = 0; f < finds.size; f++) {
            if (finds.toldAt[f] <= asOf) {
                sum += payOf(f);
            }
        }
        return sum;
    }

    public int letters(int tongue, int asOf) {
        if (!isIndex(tongue, TONGUES)) {
            return NONE;
        }
        if (!isTime(asOf)) {
            return BAD;
        }
        int sum = 0;
        for (int f = 0; f < finds.size; f++) {
            if (finds.toldAt[f] <= asOf && !finds.out[f] && names.tongue[finds.name[f]] == tongue) {
                sum++;
            }
        }
        return sum;
    }

    public int count(int what) {
        switch (what) {
            case 0: return casts.size;
            case 1: return names.size;
            case 2: return finds.size;
            case 3: return prizes.size;
            case 4: return time;
            case 5: return tape.size;
            case 6: return casts.allCards();
            case 7: return finds.allOut();
            default: return NONE;
        }
    }

    private int payOf(int f) {
        if (finds.out[f] || finds.twinOf(f) != NONE) {
            return 0;
        }
        int c = reading.bestOf(f);
        if (c < 0) {
            return 0;
        }
        int n = finds.name[f];
        prizes.fact[MONTHS_FIELD] = Math.max(0, finds.from[f] - casts.month[c]);
        prizes.fact[FAR_FIELD] = names.stepsFrom(casts.place[c], n);
        prizes.fact[KIND_FIELD] = casts.kind[c];
        prizes.fact[TONGUE_FIELD] = names.tongue[n];
        prizes.fact[WEIGHT_FIELD] = reading.weightOf(f, c) / 1000;
        return prizes.worthOfFacts();
    }

    private static boolean isWithin(int v, int least, int most) {
        return v >= least && v <= most;
    }

    private static boolean isIndex(int i, int size) {
        return i >= 0 && i < size;
    }

    private static boolean isCell(int x, int y) {
        return x >= 0 && x < WIDE && y >= 0 && y < HIGH;
    }

    private static int placeOf(int x, int y) {
        return HIGH * x + y;
    }

    private static boolean isStrength(int v) {
        return isWithin(v, -STRONGEST, STRONGEST);
    }

    private static boolean isTime(int t) {
        return isWithin(t, 0, LAST_TIME);
    }

    /** A span is told as 10 times its lower end and its upper end, each counted from the lowest strength. */
    private static boolean isSpan(int v) {
        return v >= 0 && v / 10 <= 2 * STRONGEST && v % 10 <= 2 * STRONGEST && v / 10 <= v % 10;
    }

    private static boolean areNumbers(int first, int many) {
        return isWithin(first, 0, LAST_NUMBER) && isWithin(many, 1, MOST_CARDS) && first + many - 1 <= LAST_NUMBER;
    }

    private static boolean isMore(int kind, int more) {
        if (more < 0 || more / 100 >= CASTERS) {
            return false;
        }
        int sinks = more % 100;
        return kind == WEIGHTED ? isWithin(sinks, 1, DRIFT_MONTHS) : sinks == 0;
    }

    private static boolean isRow(int row) {
        if (!isWithin(row, 0, LAST_ROW)) {
            return false;
        }
        for (int i = 0; i < DIGITS; i++) {
            if (digitOf(row, i) > UNREAD) {
                return false;
            }
        }
        return true;
    }

    /** Digit i of a row, the last one being 0. */
    private static int digitOf(int row, int i) {
        return (row >> (4 * i)) & 15;
    }

    /** All shifts of the regions are numbered 0 .. 26, region 0's changing last. */
    private static int shiftIn(int all, int region) {
        switch (region) {
            case 0: return all / 9 - 1;
            case 1: return all / 3 % 3 - 1;
            default: return all % 3 - 1;
        }
    }

    /** What the cells are, and what moves cards in them. */
    private static final class Sea {
        final int[][] marks = new int[MARKS][CELLS];
        final int[] eastFrom = new int[REGIONS * YEAR];
        final int[] eastTo = new int[REGIONS * YEAR];
        final int[] northFrom = new int[REGIONS * YEAR];
        final int[] northTo = new int[REGIONS * YEAR];
        final int[] windEast = new int[YEAR];
        final int[] windNorth = new int[YEAR];
        final boolean[] rowTold = new boolean[ROWS];
        final int[] rowEast = new int[ROWS];
        final int[] rowNorth = new int[ROWS];
        final int[] shift = new int[REGIONS];
        /** Goes up with all that a kept drift, or a sum over names, hangs on: what was kept before is stale. */
        int changes = 1;

        int putMarks(int x0, int x1, int y, int what, int v) {
            int other = 0;
            for (int x = x0; x <= x1; x++) {
                int place = placeOf(x, y);
                if (marks[what][place] != v) {
                    marks[what][place] = v;
                    other++;
                }
            }
            changes++;
            return other;
        }

        void putCurrent(int at, int east, int north) {
            eastFrom[at] = east / 10 - STRONGEST;
            eastTo[at] = east % 10 - STRONGEST;
            northFrom[at] = north / 10 - STRONGEST;
            northTo[at] = north % 10 - STRONGEST;
            changes++;
        }

        void putWind(int month, int east, int north) {
            windEast[month] = east;
            windNorth[month] = north;
            changes++;
        }

        int putRow(int month, boolean told, int east, int north) {
            int was = rowTold[month] ? 1 : 0;
            rowTold[month] = told;
            rowEast[month] = east;
            rowNorth[month] = north;
            changes++;
            return was;
        }

        int eastWindIn(int month) {
            return rowTold[month % ROWS] ? rowEast[month % ROWS] : windEast[month % YEAR];
        }

        int northWindIn(int month) {
            return rowTold[month % ROWS] ? rowNorth[month % ROWS] : windNorth[month % YEAR];
        }

        boolean isWater(int place) {
            return marks[IS][place] == WATER;
        }

        boolean isIcy(int place, int month) {
            return ((marks[ICE][place] >> (month % YEAR)) & 1) == 1;
        }
    }

    private static final class Casts {
        final int[] kind = new int[MOST_CASTS];
        final int[] first = new int[MOST_CASTS];
        final int[] many = new int[MOST_CASTS];
        final int[] month = new int[MOST_CASTS];
        final int[] place = new int[MOST_CASTS];
        final int[] caster = new int[MOST_CASTS];
        final int[] sinks = new int[MOST_CASTS];
        int size = 0;

        int add(int aKind, int aFirst, int aMany, int aMonth, int aPlace, int aCaster, int months) {
            kind[size] = aKind;
            first[size] = aFirst;
            many[size] = aMany;
            month[size] = aMonth;
            place[size] = aPlace;
            caster[size] = aCaster;
            sinks[size] = months;
            return size++;
        }

        boolean hasNumbers(int aCaster, int aFirst, int aMany) {
            for (int c = 0; c < size; c++) {
                if (caster[c] == aCaster && aFirst < first[c] + many[c] && first[c] < aFirst + aMany) {
                    return true;
                }
            }
            return false;
        }

        int allCards() {
            int sum = 0;
            for (int c = 0; c < size; c++) {
                sum += many[c];
            }
            return sum;
        }
    }

    private static final class Names {
        final int[] x0 = new int[MOST_NAMES];
        final int[] x1 = new int[MOST_NAMES];
        final int[] y0 = new int[MOST_NAMES];
        final int[] y1 = new int[MOST_NAMES];
        final int[] tongue = new int[MOST_NAMES];
        int size = 0;

        int add(int west, int east, int south, int north, int aTongue) {
            x0[size] = west;
            x1[size] = east;
            y0[size] = south;
            y1[size] = north;
            tongue[size] = aTongue;
            return size++;
        }

        int stepsFrom(int place, int n) {
            return stepsInto(place / HIGH, x0[n], x1[n]) + stepsInto(place % HIGH, y0[n], y1[n]);
        }

        private static int stepsInto(int at, int from, int to) {
            return Math.max(0, Math.max(from - at, at - to));
        }

        /** The found of a drift (a row of cells for each of its months) in cells of a name in months t0 .. t1 of it. */
        int foundWithin(int[] found, int n, int t0, int t1) {
            int sum = 0;
            for (int t = Math.max(t0, 0); t <= t1 && t < DRIFT_MONTHS; t++) {
                for (int x = x0[n]; x <= x1[n]; x++) {
                    int column = t * CELLS + placeOf(x, 0);
                    for (int y = y0[n]; y <= y1[n]; y++) {
                        sum += found[column + y];
                    }
                }
            }
            return sum;
        }
    }

    private static final class Finds {
        final int[] row = new int[MOST_FINDS];
        final int[] caster = new int[MOST_FINDS];
        final int[] name = new int[MOST_FINDS];
        final int[] from = new int[MOST_FINDS];
        final int[] to = new int[MOST_FINDS];
        final int[] toldAt = new int[MOST_FINDS];
        final boolean[] out = new boolean[MOST_FINDS];
        int size = 0;

        int add(int aRow, int aCaster, int aName, int first, int last, int time) {
            row[size] = aRow;
            caster[size] = aCaster;
            name[size] = aName;
            from[size] = first;
            to[size] = last;
            toldAt[size] = time;
            out[size] = false;
            return size++;
        }

        int twinOf(int f) {
            if (!isAllRead(row[f])) {
                return NONE;
            }
            for (int g = 0; g < f; g++) {
                if (!out[g] && row[g] == row[f] && caster[g] == caster[f]) {
                    return g;
                }
            }
            return NONE;
        }

        private static boolean isAllRead(int aRow) {
            for (int i = 0; i < DIGITS; i++) {
                if (digitOf(aRow, i) == UNREAD) {
                    return false;
                }
            }
            return true;
        }

        int allOut() {
            int sum = 0;
            for (int f = 0; f < size; f++) {
                if (out[f]) {
                    sum++;
                }
            }
            return sum;
        }
    }

    /** One drift at a time, gone on with month by month. */
    private static final class Drift {
        private final Sea sea;
        private final int[] water = new int[CELLS];
        private final int[] coming = new int[CELLS];
        private final int[] ashore = new int[CELLS];
        /** For each month of the drift a row of cells. */
        final int[] found = new int[DRIFT_MONTHS * CELLS];
        private final int[] shift = new int[REGIONS];
        private int kind;
        private int castMonth;
        private int sinks;
        private int gone;
        private int eastWind;
        private int northWind;
        private int buried;
        private int lost;
        private int sunk;

        Drift(Sea aSea) {
            sea = aSea;
        }

        void startCast(Casts casts, int c, int[] shifts) {
            start(casts.kind[c], casts.month[c], casts.place[c], casts.sinks[c], shifts);
        }

        void start(int aKind, int month, int place, int sinksBehind, int[] shifts) {
            Arrays.fill(water, 0);
            Arrays.fill(ashore, 0);
            Arrays.fill(found, 0);
            System.arraycopy(shifts, 0, shift, 0, REGIONS);
            water[place] = ALL_PARTS;
            kind = aKind;
            castMonth = month;
            sinks = sinksBehind;
            gone = 0;
            buried = 0;
            lost = 0;
            sunk = 0;
        }

        void goOn(int months) {
            for (int i = 0; i < months && gone < DRIFT_MONTHS; i++) {
                if (kind == WEIGHTED && gone >= sinks) {
                    sinkAll();
                }
                goInWater(castMonth + gone);
                beWalked();
                gone++;
            }
        }

        private void sinkAll() {
            sunk += sumOf(water);
            Arrays.fill(water, 0);
        }

        private void goInWater(int month) {
            eastWind = asItFloats(sea.eastWindIn(month));
            northWind = asItFloats(sea.northWindIn(month));
            Arrays.fill(coming, 0);
            for (int place = 0; place < CELLS; place++) {
                if (water[place] == 0) {
                    continue;
                }
                if (sea.isIcy(place, month)) {
                    coming[place] += water[place];
                } else {
                    goFrom(place, month);
                }
            }
            System.arraycopy(coming, 0, water, 0, CELLS);
        }

        private int asItFloats(int strength) {
            switch (kind) {
                case BOTTLE: return strength;
                case WEIGHTED: return strength / 2;
                case SAIL: return 2 * strength;
                default: return 0;
            }
        }

        private void goFrom(int place, int month) {
            int region = sea.marks[REGION][place];
            int at = region * YEAR + month % YEAR;
            int east = eastWind + shift[region];
            int quarter = water[place] / 4;
            int others = water[place] - 2 * quarter;
            send(place, sea.eastFrom[at] + east, sea.northFrom[at] + northWind, quarter);
            send(place, sea.eastTo[at] + east, sea.northTo[at] + northWind, quarter);
            send(place, (sea.eastFrom[at] + sea.eastTo[at]) / 2 + east,
                (sea.northFrom[at] + sea.northTo[at]) / 2 + northWind, others);
        }

        private void send(int place, int east, int north, int many) {
            int x = place / HIGH;
            int y = place % HIGH;
            int eastSteps = Math.abs(east);
            int steps = eastSteps + Math.abs(north);
            for (int i = 0; i < steps; i++) {
                int nextX = i < eastSteps ? x + Integer.signum(east) : x;
                int nextY = i < eastSteps ? y : y + Integer.signum(north);
                if (!isCell(nextX, nextY)) {
                    lost += many;
                    return;
                }
                int is = sea.marks[IS][placeOf(nextX, nextY)];
                if (is == SHORE) {
                    ashore[placeOf(nextX, nextY)] += many;
                    return;
                }
                if (is == LAND) {
                    break;
                }
                x = nextX;
                y = nextY;
            }
            coming[placeOf(x, y)] += many;
        }

        private void beWalked() {
            for (int place = 0; place < CELLS; place++) {
                if (ashore[place] == 0) {
                    continue;
                }
                int taken = ashore[place] * sea.marks[WALKED][place] / 16;
                int left = ashore[place] - taken;
                int covered = left * sea.marks[SAND][place] / 16;
                found[gone * CELLS + place] = taken;
                buried += covered;
                ashore[place] = left - covered;
            }
        }

        boolean meets(Drift other) {
            for (int place = 0; place < CELLS; place++) {
                if (water[place] + ashore[place] > 0 && other.water[place] + other.ashore[place] > 0) {
                    return true;
                }
            }
            return false;
        }

        int allParts(int what) {
            switch (what) {
                case 0: return sumOf(water);
                case 1: return sumOf(ashore);
                case 2: return sumOf(found);
                case 3: return buried;
                case 4: return lost;
                default: return sunk;
            }
        }

        int partsIn(int place, int what) {
            switch (what) {
                case 0: return water[place];
                case 1: return ashore[place];
                default: return foundIn(place);
            }
        }

        int foundIn(int place) {
            int sum = 0;
            for (int t = 0; t < DRIFT_MONTHS; t++) {
                sum += found[t * CELLS + place];
            }
            return sum;
        }

        private static int sumOf(int[] row) {
            int sum = 0;
            for (int v : row) {
                sum += v;
            }
            return sum;
        }
    }

    /** What is found of each cast with the shifts that are told, kept until something changes. */
    private static final class Landings {
        private final Sea sea;
        private final Casts casts;
        private final Drift drift;
        final int[][] found = new int[MOST_CASTS][DRIFT_MONTHS * CELLS];
        private int keptAt = 0;

        Landings(Sea aSea, Casts someCasts, Drift aDrift) {
            sea = aSea;
            casts = someCasts;
            drift = aDrift;
        }

        void refresh() {
            if (keptAt == sea.changes) {
                return;
            }
            for (int c = 0; c < casts.size; c++) {
                drift.startCast(casts, c, sea.shift);
                drift.goOn(DRIFT_MONTHS);
                System.arraycopy(drift.found, 0, found[c], 0, DRIFT_MONTHS * CELLS);
            }
            keptAt = sea.changes;
        }
    }

    /** Finds read against casts; landings are refreshed before it is asked. */
    private static final class Reading {
        private final Casts casts;
        private final Names names;
        private final Finds finds;
        private final Landings landings;
        /** How many cards of a cast a find can be: neither ever changes, so it is counted once. */
        private final int[][] cardsThatFit = new int[MOST_FINDS][MOST_CASTS];

        Reading(Casts someCasts, Names someNames, Finds someFinds, Landings someLandings) {
            casts = someCasts;
            names = someNames;
            finds = someFinds;
            landings = someLandings;
        }

        void matchCast(int c) {
            for (int f = 0; f < finds.size; f++) {
                cardsThatFit[f][c] = countCards(f, c);
            }
        }

        void matchFind(int f) {
            for (int c = 0; c < casts.size; c++) {
                cardsThatFit[f][c] = countCards(f, c);
            }
        }

        private int countCards(int f, int c) {
            if (finds.caster[f] != casts.caster[c]) {
                return 0;
            }
            int sum = 0;
            for (int i = 0; i < casts.many[c]; i++) {
                if (agrees(finds.row[f], casts.first[c] + i)) {
                    sum++;
                }
            }
            return sum;
        }

        private static boolean agrees(int row, int number) {
            int rest = number;
            for (int i = 0; i < DIGITS; i++) {
                int digit = digitOf(row, i);
                if (digit != UNREAD && digit != rest % 10) {
                    return false;
                }
                rest /= 10;
            }
            return true;
        }

        int cardsOf(int f, int c) {
            return cardsThatFit[f][c];
        }

        int weightOf(int f, int c) {
            if (cardsThatFit[f][c] == 0) {
                return 0;
            }
            int cast = casts.month[c];
            return names.foundWithin(landings.found[c], finds.name[f], finds.from[f] - cast, finds.to[f] - cast);
        }

        int bestOf(int f) {
            int best = NONE;
            int most = 0;
            for (int c = 0; c < casts.size; c++) {
                int w = weightOf(f, c);
                if (w > most) {
                    most = w;
                    best = c;
                }
            }
            return best;
        }

        int verdictOf(int f) {
            int fitting = 0;
            int weighing = 0;
            for (int c = 0; c < casts.size; c++) {
                if (cardsThatFit[f][c] > 0) {
                    fitting++;
                }
                if (weightOf(f, c) > 0) {
                    weighing++;
                }
            }
            if (fitting == 0) {
                return STRANGE;
            }
            if (weighing == 0) {
                return FAKE;
            }
            return weighing == 1 ? SURE : SEVERAL;
        }

        /** The cast that got a find: it is sure for it, not out, and no twin. */
        int castGot(int f) {
            if (finds.out[f] || finds.twinOf(f) != NONE || verdictOf(f) != SURE) {
                return NONE;
            }
            return bestOf(f);
        }
    }

    /** What is missed with all shifts, tried one after the other. */
    private static final class Fitting {
        private final Sea sea;
        private final Casts casts;
        private final Names names;
        private final Finds finds;
        private final Landings landings;
        private final Reading reading;
        private final Drift drift;
        private final int[] trial = new int[REGIONS];
        /** For all shifts a row with what is due of each cast in each name. */
        private final int[][] due = new int[ALL_SHIFTS][MOST_CASTS * MOST_NAMES];
        private final int[] dueAt = new int[ALL_SHIFTS];
        private final int[] gotThere = new int[MOST_CASTS * MOST_NAMES];
        private final int[] kept = new int[CELLS];

        Fitting(Sea aSea, Casts someCasts, Names someNames, Finds someFinds,
                Landings someLandings, Reading aReading, Drift aDrift) {
            sea = aSea;
            casts = someCasts;
            names = someNames;
            finds = someFinds;
            landings = someLandings;
            reading = aReading;
            drift = aDrift;
        }

        int shiftsTold() {
            return 9 * (sea.shift[0] + 1) + 3 * (sea.shift[1] + 1) + sea.shift[2] + 1;
        }

        void refreshAll() {
            landings.refresh();
            countGot();
            for (int all = 0; all < ALL_SHIFTS; all++) {
                refreshOne(all);
            }
        }

        void refreshOne(int all) {
            if (dueAt[all] == sea.changes) {
                return;
            }
            for (int region = 0; region < REGIONS; region++) {
                trial[region] = shiftIn(all, region);
            }
            for (int c = 0; c < casts.size; c++) {
                drift.startCast(casts, c, trial);
                drift.goOn(DRIFT_MONTHS);
                for (int n = 0; n < names.size; n++) {
                    int found = names.foundWithin(drift.found, n, 0, DRIFT_MONTHS - 1);
                    due[all][slotOf(c, n)] = found * casts.many[c] / 1000;
                }
            }
            dueAt[all] = sea.changes;
        }

        private static int slotOf(int c, int n) {
            return c * MOST_NAMES + n;
        }

        /** Landings are refreshed before. */
        void countGot() {
            Arrays.fill(gotThere, 0);
            for (int f = 0; f < finds.size; f++) {
                int c = reading.castGot(f);
                if (c >= 0) {
                    gotThere[slotOf(c, finds.name[f])]++;
                }
            }
        }

        long missedWith(int all) {
            long sum = 0;
            for (int c = 0; c < casts.size; c++) {
                for (int n = 0; n < names.size; n++) {
                    long off = due[all][slotOf(c, n)] - 1000L * gotThere[slotOf(c, n)];
                    sum += off * off;
                }
            }
            return sum;
        }

        int leastMissed() {
            int least = 0;
            long missed = missedWith(0);
            for (int all = 1; all < ALL_SHIFTS; all++) {
                long other = missedWith(all);
                if (other < missed) {
                    missed = other;
                    least = all;
                }
            }
            return least;
        }

        /** How many of the latest sure finds, each left out alone, turn the fit of a region. */
        int turnsOf(int region) {
            int now = shiftIn(leastMissed(), region);
            int seen = 0;
            int turns = 0;
            for (int f = finds.size - 1; f >= 0 && seen < LATEST; f--) {
                int c = reading.castGot(f);
                if (c < 0) {
                    continue;
                }
                seen++;
                int slot = slotOf(c, finds.name[f]);
                gotThere[slot]--;
                if (shiftIn(leastMissed(), region) != now) {
                    turns++;
                }
                gotThere[slot]++;
            }
            return turns;
        }

        /** The drift of a cast that is not made, with another shift of one region. */
        void tryDrift(int kind, int month, int place, int region, int shift) {
            System.arraycopy(sea.shift, 0, trial, 0, REGIONS);
            trial[region] = shift;
            drift.start(kind, month, place, 0, trial);
            drift.goOn(DRIFT_MONTHS);
        }

        void keepFound() {
            for (int place = 0; place < CELLS; place++) {
                kept[place] = drift.foundIn(place);
            }
        }

        int offFromKept() {
            int sum = 0;
            for (int place = 0; place < CELLS; place++) {
                sum += Math.abs(drift.foundIn(place) - kept[place]) / 10;
            }
            return sum;
        }
    }

    /** Bytes that were fed, and the place that reading them has come to. */
    private static final class Tape {
        private final int[] bytes = new int[MOST_BYTES];
        int size = 0;
        int at = 0;

        int append(long w, int n) {
            for (int i = n - 1; i >= 0; i--) {
                bytes[size] = (int) ((w >> (8 * i)) & 255);
                size++;
            }
            return size;
        }

        void empty() {
            size = 0;
            at = 0;
        }

        boolean isAtEnd() {
            return at >= size;
        }

        boolean isAt(int sign) {
            return at < size && bytes[at] == sign;
        }

        boolean take(int sign) {
            if (!isAt(sign)) {
                return false;
            }
            at++;
            return true;
        }

        boolean takeWord(String word) {
            for (int i = 0; i < word.length(); i++) {
                if (!take(word.charAt(i))) {
                    return false;
                }
            }
            return true;
        }

        /** A number of one to four digits, or NONE. */
        int takeNumber() {
            int v = NONE;
            for (int i = 0; i < 4 && at < size && bytes[at] >= '0' && bytes[at] <= '9'; i++) {
                v = Math.max(v, 0) * 10 + bytes[at] - '0';
                at++;
            }
            return v;
        }
    }

    private static final class Prizes {
        private final int[] worth = new int[MOST_PRIZES];
        private final int[] tests = new int[MOST_PRIZES];
        private final boolean[] isNot = new boolean[MOST_PRIZES * MOST_TESTS];
        private final int[] field = new int[MOST_PRIZES * MOST_TESTS];
        private final int[] sign = new int[MOST_PRIZES * MOST_TESTS];
        private final int[] number = new int[MOST_PRIZES * MOST_TESTS];
        /** What a find shows in each field, put here before its worth is asked. */
        final int[] fact = new int[WEIGHT_FIELD + 1];
        int size = 0;

        /** Reads into the place behind the last prize; the tape's place is the fault if it is none. */
        boolean readFrom(Tape tape) {
            tests[size] = 0;
            if (!tape.takeWord("prize ")) {
                return false;
            }
            worth[size] = tape.takeNumber();
            if (worth[size] < 0) {
                return false;
            }
            if (tape.isAtEnd()) {
                return true;
            }
            if (!tape.takeWord(" if ")) {
                return false;
            }
            for (int i = 0; i < MOST_TESTS; i++) {
                if (!readTest(tape, size * MOST_TESTS + i)) {
                    return false;
                }
                tests[size]++;
                if (tape.isAtEnd()) {
                    return true;
                }
                if (i == MOST_TESTS - 1 || !tape.take('&')) {
                    return false;
                }
            }
            return false;
        }

        private boolean readTest(Tape tape, int slot) {
            isNot[slot] = tape.take('!');
            field[slot] = readField(tape);
            if (field[slot] < 0) {
                return false;
            }
            sign[slot] = readSign(tape);
            if (sign[slot] < 0) {
                return false;
            }
            number[slot] = tape.takeNumber();
            return number[slot] >= 0;
        }

        /** No two fields begin alike, so the first sign tells which word must follow. */
        private static int readField(Tape tape) {
            if (tape.isAt('m')) {
                return tape.takeWord("months") ? MONTHS_FIELD : NONE;
            }
            if (tape.isAt('f')) {
                return tape.takeWord("far") ? FAR_FIELD : NONE;
            }
            if (tape.isAt('k')) {
                return tape.takeWord("kind") ? KIND_FIELD : NONE;
            }
            if (tape.isAt('t')) {
                return tape.takeWord("tongue") ? TONGUE_FIELD : NONE;
            }
            return tape.takeWord("weight") ? WEIGHT_FIELD : NONE;
        }

        private static int readSign(Tape tape) {
            if (tape.take(EQUAL)) {
                return EQUAL;
            }
            if (tape.take(LESS)) {
                return LESS;
            }
            return tape.take(MORE) ? MORE : NONE;
        }

        int keepRead() {
            return size++;
        }

        int worthOfFacts() {
            int sum = 0;
            for (int p = 0; p < size; p++) {
                if (holds(p)) {
                    sum += worth[p];
                }
            }
            return sum;
        }

        private boolean holds(int p) {
            for (int i = 0; i < tests[p]; i++) {
                int slot = p * MOST_TESTS + i;
                if (isTrue(slot) == isNot[slot]) {
                    return false;
                }
            }
            return true;
        }

        private boolean isTrue(int slot) {
            int shown = fact[field[slot]];
            switch (sign[slot]) {
                case EQUAL: return shown == number[slot];
                case LESS: return shown < number[slot];
                default: return shown > number[slot];
            }
        }
    }
}
