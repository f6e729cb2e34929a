import java.util.ArrayList;
import java.util.HashMap;
import java.util.List;
import java.util.Map;
import java.util.regex.Matcher;
import java.util.regex.Pattern;

/**
 * The document told a second time, as plainly as it goes: nothing is kept that can be worked out,
 * every drift is gone anew for each question. DriftCards is held against it.
 */
final class Model {
    static final int NONE = -1, BAD = -2, STATE = -3, FULL = -4;

    record Cast(int kind, int first, int n, int month, int x, int y, int caster, int sinks) { }

    record Name(int x0, int x1, int y0, int y1, int tongue) {
        boolean has(int x, int y) {
            return x0 <= x && x <= x1 && y0 <= y && y <= y1;
        }
    }

    record Find(String digits, int caster, int name, int from, int to, int told, boolean[] out) { }

    record Test(boolean not, String field, char op, int n) { }

    record Prize(int n, List<Test> tests) { }

    /** Where parts are behind some months; found has a sheet for each month gone. */
    static final class Where {
        long[][] water = new long[10][6];
        long[][] ashore = new long[10][6];
        List<long[][]> found = new ArrayList<>();
        long buried;
        long lost;
        long sunk;

        long foundAt(int x, int y) {
            return found.stream().mapToLong(sheet -> sheet[x][y]).sum();
        }
    }

    final int[][][] mark = new int[10][6][5];
    final int[][][] current = new int[3][12][];
    final int[][] wind = new int[12][2];
    final Map<Integer, int[]> rows = new HashMap<>();
    final int[] shift = new int[3];
    final List<Cast> casts = new ArrayList<>();
    final List<Name> names = new ArrayList<>();
    final List<Find> finds = new ArrayList<>();
    final List<Prize> prizes = new ArrayList<>();
    String tape = "";
    int time = 0;

    Model() {
        for (int[][] ofRegion : current) {
            for (int m = 0; m < 12; m++) {
                ofRegion[m] = new int[] {0, 0, 0, 0};
            }
        }
    }

    static boolean in(int v, int lo, int hi) {
        return lo <= v && v <= hi;
    }

    static boolean cellThere(int x, int y) {
        return in(x, 0, 9) && in(y, 0, 5);
    }

    int paint(int x0, int x1, int y, int what, int v) {
        if (!cellThere(x0, y) || !cellThere(x1, y) || x0 > x1 || !in(what, 0, 4)) return NONE;
        if (!in(v, 0, new int[] {2, 2, 16, 16, 4095}[what])) return BAD;
        if (what == 0 && !casts.isEmpty()) return STATE;
        int other = 0;
        for (int x = x0; x <= x1; x++) {
            if (mark[x][y][what] != v) other++;
            mark[x][y][what] = v;
        }
        return other;
    }

    int cell(int x, int y, int what) {
        return cellThere(x, y) && in(what, 0, 4) ? mark[x][y][what] : NONE;
    }

    int current(int region, int month, int east, int north) {
        if (!in(region, 0, 2) || !in(month, 0, 11)) return NONE;
        for (int v : new int[] {east, north}) {
            if (v < 0 || v > 66 || v % 10 > 6 || v % 10 < v / 10) return BAD;
        }
        current[region][month] = new int[] {east / 10 - 3, east % 10 - 3, north / 10 - 3, north % 10 - 3};
        return 0;
    }

    int wind(int month, int east, int north) {
        if (!in(month, 0, 11)) return NONE;
        if (!in(east, -3, 3) || !in(north, -3, 3)) return BAD;
        wind[month] = new int[] {east, north};
        return 0;
    }

    int storm(int month, int east, int north) {
        if (!in(month, 0, 47)) return NONE;
        if (!in(east, -3, 3) || !in(north, -3, 3)) return BAD;
        return rows.put(month, new int[] {east, north}) == null ? 0 : 1;
    }

    int calm(int month) {
        if (!in(month, 0, 47)) return NONE;
        return rows.remove(month) == null ? 0 : 1;
    }

    int cast(int kind, int first, int many, int month, int place, int more) {
        if (!in(place, 0, 59) || !in(month, 0, 47)) return NONE;
        if (!in(kind, 0, 3) || !in(first, 0, 9999) || !in(many, 1, 1000) || first + many > 10000) return BAD;
        if (!in(more, 0, 399)) return BAD;
        if (kind == 2 ? !in(more % 100, 1, 12) : more % 100 != 0) return BAD;
        int x = place / 6;
        int y = place % 6;
        if (mark[x][y][0] != 0) return STATE;
        for (Cast c : casts) {
            for (int i = first; i < first + many; i++) {
                if (c.caster == more / 100 && in(i, c.first, c.first + c.n - 1)) return STATE;
            }
        }
        if (casts.size() == 5) return FULL;
        casts.add(new Cast(kind, first, many, month, x, y, more / 100, more % 100));
        return casts.size() - 1;
    }

    int about(int c, int what) {
        if (!in(c, 0, casts.size() - 1) || !in(what, 0, 5)) return NONE;
        Cast k = casts.get(c);
        return new int[] {k.kind, k.first, k.n, k.month, 6 * k.x + k.y, k.caster}[what];
    }

    Where drift(Cast c, int months, int[] shifts) {
        Where w = new Where();
        w.water[c.x][c.y] = 1000000;
        for (int t = 0; t < months; t++) {
            if (c.kind == 2 && t >= c.sinks) {
                w.sunk += sum(w.water);
                w.water = new long[10][6];
            }
            go(c, w, c.month + t, shifts);
            w.found.add(walk(w));
        }
        return w;
    }

    private void go(Cast c, Where w, int month, int[] shifts) {
        int[] blows = rows.getOrDefault(month > 47 ? month % 48 : month, wind[month % 12]);
        double[] share = {0, 1, 0.5, 2};
        int windEast = (int) (blows[0] * share[c.kind]);
        int windNorth = (int) (blows[1] * share[c.kind]);
        long[][] before = w.water;
        w.water = new long[10][6];
        for (int x = 0; x < 10; x++) {
            for (int y = 0; y < 6; y++) {
                long p = before[x][y];
                if ((mark[x][y][4] & 1 << month % 12) != 0) {
                    w.water[x][y] += p;
                    continue;
                }
                int region = mark[x][y][1];
                int[] cur = current[region][month % 12];
                int[][] ways = {{cur[0], cur[2]}, {cur[1], cur[3]}, {(cur[0] + cur[1]) / 2, (cur[2] + cur[3]) / 2}};
                long[] share4 = {p / 4, p / 4, p - p / 4 - p / 4};
                for (int i = 0; i < 3; i++) {
                    way(w, x, y, ways[i][0] + shifts[region] + windEast, ways[i][1] + windNorth, share4[i]);
                }
            }
        }
    }

    private void way(Where w, int x, int y, int east, int north, long p) {
        while (east != 0 || north != 0) {
            int nx = x;
            int ny = y;
            if (east > 0) { nx++; east--; } else if (east < 0) { nx--; east++; }
            else if (north > 0) { ny++; north--; } else { ny--; north++; }
            if (!cellThere(nx, ny)) { w.lost += p; return; }
            if (mark[nx][ny][0] == 1) { w.ashore[nx][ny] += p; return; }
            if (mark[nx][ny][0] == 2) break;
            x = nx;
            y = ny;
        }
        w.water[x][y] += p;
    }

    private long[][] walk(Where w) {
        long[][] found = new long[10][6];
        for (int x = 0; x < 10; x++) {
            for (int y = 0; y < 6; y++) {
                found[x][y] = w.ashore[x][y] * mark[x][y][3] / 16;
                w.ashore[x][y] -= found[x][y];
                long sand = w.ashore[x][y] * mark[x][y][2] / 16;
                w.ashore[x][y] -= sand;
                w.buried += sand;
            }
        }
        return found;
    }

    static long sum(long[][] sheet) {
        long s = 0;
        for (long[] column : sheet) for (long v : column) s += v;
        return s;
    }

    int parts(int c, int months, int what) {
        if (!in(c, 0, casts.size() - 1) || !in(what, 0, 5)) return NONE;
        if (!in(months, 0, 12)) return BAD;
        Where w = drift(casts.get(c), months, shift);
        long found = w.found.stream().mapToLong(Model::sum).sum();
        return (int) new long[] {sum(w.water), sum(w.ashore), found, w.buried, w.lost, w.sunk}[what];
    }

    int partsAt(int c, int months, int x, int y, int what) {
        if (!in(c, 0, casts.size() - 1) || !cellThere(x, y) || !in(what, 0, 2)) return NONE;
        if (!in(months, 0, 12)) return BAD;
        Where w = drift(casts.get(c), months, shift);
        return (int) new long[] {w.water[x][y], w.ashore[x][y], w.foundAt(x, y)}[what];
    }

    int apart(int c, int d) {
        if (!in(c, 0, casts.size() - 1) || !in(d, 0, casts.size() - 1) || c == d) return NONE;
        for (int months = 0; months <= 12; months++) {
            Where a = drift(casts.get(c), months, shift);
            Where b = drift(casts.get(d), months, shift);
            boolean both = false;
            for (int x = 0; x < 10; x++) {
                for (int y = 0; y < 6; y++) {
                    both |= (a.water[x][y] > 0 || a.ashore[x][y] > 0) && (b.water[x][y] > 0 || b.ashore[x][y] > 0);
                }
            }
            if (!both) return months;
        }
        return STATE;
    }

    int name(int x, int y, int tongue) {
        if (x < 0 || y < 0 || x / 100 > 9 || x % 100 > 9 || y / 100 > 5 || y % 100 > 5) return NONE;
        if (x / 100 > x % 100 || y / 100 > y % 100 || !in(tongue, 0, 5)) return BAD;
        if (names.size() == 6) return FULL;
        names.add(new Name(x / 100, x % 100, y / 100, y % 100, tongue));
        return names.size() - 1;
    }

    int find(int row, int caster, int name, int from, int to) {
        if (!in(name, 0, names.size() - 1) || !in(caster, 0, 3)) return NONE;
        if (!in(row, 0, 65535)) return BAD;
        String digits = String.format("%04x", row);
        if (!digits.matches("[0-9a]{4}")) return BAD;
        if (!in(from, 0, 60) || !in(to, 0, 60) || from > to) return BAD;
        if (finds.size() == 16) return FULL;
        finds.add(new Find(digits, caster, name, from, to, time, new boolean[1]));
        return finds.size() - 1;
    }

    int clock(int t) {
        if (!in(t, time, 999)) return BAD;
        int was = time;
        time = t;
        return was;
    }

    int drop(int f, int is) {
        if (!findThere(f)) return NONE;
        if (!in(is, 0, 1)) return BAD;
        int was = finds.get(f).out[0] ? 1 : 0;
        finds.get(f).out[0] = is == 1;
        return was;
    }

    private boolean findThere(int f) {
        return in(f, 0, finds.size() - 1);
    }

    int cardsOf(int f, int c) {
        Find k = finds.get(f);
        Cast cast = casts.get(c);
        if (k.caster != cast.caster) return 0;
        Pattern p = Pattern.compile(k.digits.replace('a', '.'));
        int n = 0;
        for (int i = 0; i < cast.n; i++) {
            if (p.matcher(String.format("%04d", cast.first + i)).matches()) n++;
        }
        return n;
    }

    int weightOf(int f, int c) {
        if (cardsOf(f, c) == 0) return 0;
        Find k = finds.get(f);
        Where w = drift(casts.get(c), 12, shift);
        long s = 0;
        for (int month = k.from; month <= k.to; month++) {
            int t = month - casts.get(c).month;
            if (!in(t, 0, 11)) continue;
            for (int x = 0; x < 10; x++) {
                for (int y = 0; y < 6; y++) {
                    if (names.get(k.name).has(x, y)) s += w.found.get(t)[x][y];
                }
            }
        }
        return (int) s;
    }

    int weight(int f, int c) {
        return findThere(f) && in(c, 0, casts.size() - 1) ? weightOf(f, c) : NONE;
    }

    int judge(int f) {
        if (!findThere(f)) return NONE;
        int fits = 0;
        int weigh = 0;
        for (int c = 0; c < casts.size(); c++) {
            if (cardsOf(f, c) > 0) fits++;
            if (weightOf(f, c) > 0) weigh++;
        }
        return fits == 0 ? 3 : weigh == 0 ? 0 : weigh == 1 ? 2 : 1;
    }

    int best(int f) {
        if (!findThere(f)) return NONE;
        int best = NONE;
        for (int c = casts.size() - 1; c >= 0; c--) {
            int w = weightOf(f, c);
            if (w > 0 && (best < 0 || w >= weightOf(f, best))) best = c;
        }
        return best;
    }

    int cards(int f) {
        if (!findThere(f)) return NONE;
        return best(f) < 0 ? 0 : cardsOf(f, best(f));
    }

    int twin(int f) {
        if (!findThere(f) || finds.get(f).digits.contains("a")) return NONE;
        for (int g = 0; g < f; g++) {
            Find other = finds.get(g);
            if (!other.out[0] && other.digits.equals(finds.get(f).digits) && other.caster == finds.get(f).caster) return g;
        }
        return NONE;
    }

    private boolean isGot(int f) {
        return !finds.get(f).out[0] && twin(f) == NONE && judge(f) == 2;
    }

    int got(int c, int name, int asOf) {
        if (!in(c, 0, casts.size() - 1) || !in(name, -1, names.size() - 1)) return NONE;
        if (!in(asOf, 0, 999)) return BAD;
        int n = 0;
        for (int f = 0; f < finds.size(); f++) {
            Find k = finds.get(f);
            if (k.told <= asOf && isGot(f) && best(f) == c && (name == -1 || k.name == name)) n++;
        }
        return n;
    }

    int move(int region, int v) {
        if (!in(region, 0, 2)) return STATE;
        if (!in(v, -1, 1)) return BAD;
        int was = shift[region];
        shift[region] = v;
        return was;
    }

    /** By cast and name; the one find left out (or none: -1) is not counted. */
    private long[][] gotTable(int leftOut) {
        long[][] n = new long[5][6];
        for (int f = 0; f < finds.size(); f++) {
            if (f != leftOut && isGot(f)) n[best(f)][finds.get(f).name]++;
        }
        return n;
    }

    private long missed(int[] shifts, long[][] got) {
        long s = 0;
        for (int c = 0; c < casts.size(); c++) {
            Where w = drift(casts.get(c), 12, shifts);
            for (int n = 0; n < names.size(); n++) {
                long found = 0;
                for (int x = 0; x < 10; x++) {
                    for (int y = 0; y < 6; y++) {
                        if (names.get(n).has(x, y)) found += w.foundAt(x, y);
                    }
                }
                long off = found * casts.get(c).n / 1000 - 1000 * got[c][n];
                s += off * off;
            }
        }
        return s;
    }

    private int[] fitWithout(int leftOut) {
        long[][] got = gotTable(leftOut);
        int[] best = null;
        long least = 0;
        for (int a = -1; a <= 1; a++) {
            for (int b = -1; b <= 1; b++) {
                for (int c = -1; c <= 1; c++) {
                    long m = missed(new int[] {a, b, c}, got);
                    if (best == null || m < least) {
                        best = new int[] {a, b, c};
                        least = m;
                    }
                }
            }
        }
        return best;
    }

    int fit(int region) {
        return in(region, 0, 2) ? fitWithout(-1)[region] : STATE;
    }

    long misfit() {
        return missed(fitWithout(-1), gotTable(-1));
    }

    long misses() {
        return missed(shift, gotTable(-1));
    }

    int doubt(int region) {
        if (!in(region, 0, 2)) return NONE;
        int now = fitWithout(-1)[region];
        int turned = 0;
        int seen = 0;
        for (int f = finds.size() - 1; f >= 0 && seen < 3; f--) {
            if (!isGot(f)) continue;
            seen++;
            if (fitWithout(f)[region] != now) turned++;
        }
        return turned;
    }

    int tells(int kind, int month, int place, int region) {
        if (!in(place, 0, 59) || !in(month, 0, 47) || !in(region, 0, 2)) return NONE;
        if (kind != 0 && kind != 1 && kind != 3) return BAD;
        if (mark[place / 6][place % 6][0] != 0) return STATE;
        Cast c = new Cast(kind, 0, 1, month, place / 6, place % 6, 0, 0);
        Where[] w = new Where[3];
        for (int s = -1; s <= 1; s++) {
            int[] shifts = shift.clone();
            shifts[region] = s;
            w[s + 1] = drift(c, 12, shifts);
        }
        long sum = 0;
        for (int x = 0; x < 10; x++) {
            for (int y = 0; y < 6; y++) {
                sum += Math.abs(w[1].foundAt(x, y) - w[0].foundAt(x, y)) / 10;
                sum += Math.abs(w[2].foundAt(x, y) - w[0].foundAt(x, y)) / 10;
            }
        }
        return (int) sum;
    }

    int feed(long w, int n) {
        if (!in(n, 1, 8)) return BAD;
        if (tape.length() + n > 120) return FULL;
        StringBuilder b = new StringBuilder();
        for (int i = 0; i < n; i++) {
            b.insert(0, (char) (w & 255));
            w >>>= 8;
        }
        tape += b;
        return tape.length();
    }

    private static final String TEST = "!?(?:months|far|kind|tongue|weight)[=<>][0-9]{1,4}";
    private static final Pattern PRIZE = Pattern.compile("prize ([0-9]{1,4})(?: if (" + TEST + "(?:&" + TEST + "){0,2}))?");

    int prize() {
        if (prizes.size() == 8) return FULL;
        String text = tape;
        tape = "";
        Matcher m = PRIZE.matcher(text);
        if (!m.matches()) {
            int fault = 0;
            while (fault < text.length() && begins(text.substring(0, fault + 1))) fault++;
            return -10 - fault;
        }
        List<Test> tests = new ArrayList<>();
        if (m.group(2) != null) {
            for (String t : m.group(2).split("&")) {
                boolean not = t.startsWith("!");
                String[] sides = t.substring(not ? 1 : 0).split("[=<>]");
                tests.add(new Test(not, sides[0], t.replaceAll("[^=<>]", "").charAt(0), Integer.parseInt(sides[1])));
            }
        }
        prizes.add(new Prize(Integer.parseInt(m.group(1)), tests));
        return prizes.size() - 1;
    }

    /** Whether some prize's text begins so. */
    private static boolean begins(String text) {
        Matcher m = PRIZE.matcher(text);
        return m.matches() || m.hitEnd();
    }

    private int payOf(int f) {
        int c = best(f);
        Find k = finds.get(f);
        if (k.out[0] || twin(f) != NONE || c == NONE) return 0;
        Cast cast = casts.get(c);
        Name n = names.get(k.name);
        int far = 99;
        for (int x = n.x0; x <= n.x1; x++) {
            for (int y = n.y0; y <= n.y1; y++) {
                far = Math.min(far, Math.abs(x - cast.x) + Math.abs(y - cast.y));
            }
        }
        Map<String, Integer> facts = Map.of("months", k.from < cast.month ? 0 : k.from - cast.month, "far", far,
            "kind", cast.kind, "tongue", n.tongue, "weight", weightOf(f, c) / 1000);
        int sum = 0;
        for (Prize p : prizes) {
            boolean all = true;
            for (Test t : p.tests) {
                int v = facts.get(t.field);
                boolean holds = t.op == '=' ? v == t.n : t.op == '<' ? v < t.n : v > t.n;
                if (holds == t.not) all = false;
            }
            if (all) sum += p.n;
        }
        return sum;
    }

    int pays(int f) {
        return findThere(f) ? payOf(f) : NONE;
    }

    int purse(int asOf) {
        if (!in(asOf, 0, 999)) return BAD;
        int sum = 0;
        for (int f = 0; f < finds.size(); f++) {
            if (finds.get(f).told <= asOf) sum += payOf(f);
        }
        return sum;
    }

    int letters(int tongue, int asOf) {
        if (!in(tongue, 0, 5)) return NONE;
        if (!in(asOf, 0, 999)) return BAD;
        return (int) finds.stream().filter(k -> k.told <= asOf && !k.out[0] && names.get(k.name).tongue == tongue).count();
    }

    int count(int what) {
        switch (what) {
            case 0: return casts.size();
            case 1: return names.size();
            case 2: return finds.size();
            case 3: return prizes.size();
            case 4: return time;
            case 5: return tape.length();
            case 6: return casts.stream().mapToInt(c -> c.n).sum();
            case 7: return (int) finds.stream().filter(k -> k.out[0]).count();
            default: return NONE;
        }
    }
}
