import java.util.Random;
import java.util.TreeMap;

/**
 * Long runs of calls, some with wrong inputs, on DriftCards and on the model at once: every answer must be
 * the same. What was made stale by a call and kept all the same shows here.
 */
public final class AgainstModelTest {
    private static final int RUNS = 120;
    /** All that the document promises of one object. */
    private static final int CALLS = 512;
    private static final String[] FIELDS = {"months", "far", "kind", "tongue", "weight"};
    private static int wrong = 0;
    private static final TreeMap<String, TreeMap<String, Integer>> SEEN = new TreeMap<>();

    private final int run;
    private final Random random;
    private final DriftCards x = new DriftCards();
    private final Model m = new Model();
    private int calls = 0;

    private AgainstModelTest(int aRun) {
        run = aRun;
        random = new Random(7919L * aRun + 13);
    }

    public static void main(String[] args) {
        for (int run = 0; run < RUNS && wrong == 0; run++) {
            new AgainstModelTest(run).go();
        }
        if (args.length > 0) {
            SEEN.forEach((call, answers) -> System.out.println(call + " " + answers));
        }
        System.out.println(wrong == 0 ? "all answers are the model's" : wrong + " answers are not the model's");
        if (wrong != 0) System.exit(1);
    }

    private void due(String call, long got, long want) {
        calls++;
        if (calls > CALLS) return;
        String answer = want < 0 ? Long.toString(want) : want == 0 ? "zero" : "above";
        SEEN.computeIfAbsent(call.substring(0, call.indexOf('(')), k -> new TreeMap<>()).merge(answer, 1, Integer::sum);
        if (got != want) {
            wrong++;
            System.out.println("run " + run + " call " + calls + ": " + call + " answered " + got + ", the model " + want);
        }
    }

    /** A number from lo to hi; now and then one just outside, or far outside. */
    private int some(int lo, int hi) {
        switch (random.nextInt(60)) {
            case 0: return lo - 1;
            case 1: return hi + 1;
            case 2: return random.nextInt();
            default: return lo + random.nextInt(hi - lo + 1);
        }
    }

    private void go() {
        boolean oneRegion = random.nextInt(4) == 0;
        if (random.nextInt(6) > 0) paintCoast();
        int seas = random.nextInt(12);
        for (int i = 0; i < seas; i++) paintIs();
        for (int y = 0; y < 6; y++) {
            paint(0, 9, y, 3, some(1, 16));
            paint(some(0, 4), some(5, 9), y, 2, some(0, 8));
            if (!oneRegion) paint(some(0, 5), some(5, 9), y, 1, some(0, 2));
        }
        for (int region = 0; region < 3; region++) {
            for (int month = 0; month < 12; month++) {
                if (random.nextInt(4) > 0) current(region, month);
            }
        }
        int early = random.nextInt(40);
        for (int i = 0; i < early; i++) changeSea();
        for (int i = 0; i < 4; i++) {
            cast();
            name();
        }
        int quiet = random.nextInt(3);
        while (calls < CALLS && wrong == 0) {
            switch (random.nextInt(12)) {
                case 0: if (random.nextInt(1 + quiet) == 0) changeSea(); break;
                case 1: case 2: find(); break;
                case 3: changeFinds(); break;
                case 4: prize(); break;
                case 5: askCasts(); break;
                case 6: case 7: askFinds(); break;
                case 8: askShifts(); break;
                case 9: askPrizes(); break;
                case 10: if (random.nextInt(4) == 0) cast(); break;
                default: if (random.nextInt(4) == 0) name(); break;
            }
        }
    }

    /** Shore and some land all around, so that few parts are lost and many are found. */
    private void paintCoast() {
        for (int at = 0; at < 10; at++) {
            paint(at, at, 0, 0, random.nextInt(6) == 0 ? 2 : 1);
            paint(at, at, 5, 0, random.nextInt(6) == 0 ? 2 : 1);
        }
        for (int y = 1; y < 5; y++) {
            paint(0, 0, y, 0, random.nextInt(6) == 0 ? 2 : 1);
            paint(9, 9, y, 0, random.nextInt(6) == 0 ? 2 : 1);
        }
    }

    private void paint(int x0, int x1, int y, int what, int v) {
        due("paint(" + x0 + ", " + x1 + ", " + y + ", " + what + ", " + v + ")", x.paint(x0, x1, y, what, v), m.paint(x0, x1, y, what, v));
    }

    private void paintIs() {
        int at = some(0, 9);
        paint(at, random.nextInt(5) == 0 ? some(0, 9) : at, some(0, 5), 0, some(0, 2));
    }

    private int span() {
        if (random.nextInt(20) == 0) return some(0, 66);
        int from = random.nextInt(3) == 0 ? random.nextInt(7) : 1 + random.nextInt(4);
        int to = from + random.nextInt(Math.min(4, 7 - from));
        return 10 * from + to;
    }

    private void current(int region, int month) {
        int east = span();
        int north = span();
        due("current(" + region + ", " + month + ", " + east + ", " + north + ")",
            x.current(region, month, east, north), m.current(region, month, east, north));
    }

    private void changeSea() {
        int month = some(0, 11);
        int row = some(0, 47);
        int east = some(-3, 3);
        int north = some(-3, 3);
        switch (random.nextInt(7)) {
            case 0: current(some(0, 2), month); break;
            case 1: due("wind(" + month + ", " + east + ", " + north + ")", x.wind(month, east, north), m.wind(month, east, north)); break;
            case 2: due("storm(" + row + ", " + east + ", " + north + ")", x.storm(row, east, north), m.storm(row, east, north)); break;
            case 3: due("calm(" + row + ")", x.calm(row), m.calm(row)); break;
            case 4: paint(some(0, 4), some(4, 9), some(0, 5), some(1, 4), random.nextBoolean() ? some(0, 2) : some(0, 16)); break;
            case 5:
                if (random.nextBoolean()) paint(some(0, 4), some(4, 9), some(0, 5), 4, some(0, 4095));
                else paintIs();
                break;
            default: {
                int region = some(0, 2);
                int v = some(-1, 1);
                due("move(" + region + ", " + v + ")", x.move(region, v), m.move(region, v));
            }
        }
    }

    private void cast() {
        int kind = some(0, 3);
        int first = random.nextInt(8) == 0 ? some(0, 9999) : 50 * some(0, 40);
        int many = random.nextInt(4) == 0 ? some(1, 1000) : some(1, 60);
        int month = some(0, 47);
        int place = random.nextInt(5) > 0 ? 6 * some(1, 8) + some(1, 4) : some(0, 59);
        if (!m.casts.isEmpty() && random.nextInt(3) == 0) place = m.about(m.casts.size() - 1, 4);
        int more = 100 * (random.nextInt(3) > 0 ? 0 : some(0, 3));
        if (kind == 2 || random.nextInt(40) == 0) more += some(1, 12);
        due("cast(" + kind + ", " + first + ", " + many + ", " + month + ", " + place + ", " + more + ")",
            x.cast(kind, first, many, month, place, more), m.cast(kind, first, many, month, place, more));
    }

    private void name() {
        int x0 = some(0, 9);
        int y0 = some(0, 5);
        if (random.nextInt(3) == 0) x0 = 0;
        if (random.nextInt(3) == 0) y0 = 0;
        int nx = 100 * x0 + (random.nextInt(9) > 0 && x0 >= 0 && x0 < 10 ? some(x0, 9) : some(0, 9));
        int ny = 100 * y0 + (random.nextInt(9) > 0 && y0 >= 0 && y0 < 6 ? some(y0, 5) : some(0, 5));
        int tongue = some(0, 5);
        due("name(" + nx + ", " + ny + ", " + tongue + ")", x.name(nx, ny, tongue), m.name(nx, ny, tongue));
    }

    /** Mostly a number that was cast, with some digits not read. */
    private int row() {
        if (m.casts.isEmpty() || random.nextInt(12) == 0) return some(0, 65535);
        Model.Cast c = m.casts.get(random.nextInt(m.casts.size()));
        int number = c.first() + random.nextInt(Math.min(c.n(), 4));
        int row = Integer.parseInt(String.format("%04d", number), 16);
        for (int i = 0; i < 4; i++) {
            if (random.nextInt(5) == 0) row = row & ~(15 << 4 * i) | 10 << 4 * i;
        }
        return row;
    }

    private int casterOf(int row) {
        for (Model.Cast c : m.casts) {
            int number = Integer.parseInt(Integer.toHexString(row & 0xFFFF).replaceAll("[a-f]", "0"));
            if (number / 100 == c.first() / 100) return c.caster();
        }
        return 0;
    }

    private void find() {
        int row = row();
        int caster = random.nextInt(3) > 0 ? casterOf(row) : some(0, 3);
        int name = some(0, Math.max(0, m.names.size() - 1));
        int from = random.nextInt(3) > 0 ? 0 : some(0, 60);
        int to = random.nextInt(3) > 0 ? 60 : some(0, 60);
        due("find(" + row + ", " + caster + ", " + name + ", " + from + ", " + to + ")",
            x.find(row, caster, name, from, to), m.find(row, caster, name, from, to));
    }

    private int anyFind() {
        return some(0, Math.max(0, m.finds.size() - 1));
    }

    private int anyCast() {
        return some(0, Math.max(0, m.casts.size() - 1));
    }

    private int anyTime() {
        return random.nextInt(4) == 0 ? some(0, 999) : some(0, Math.max(1, m.time));
    }

    private void changeFinds() {
        if (random.nextBoolean()) {
            int t = random.nextInt(9) == 0 ? some(0, 999) : m.time + random.nextInt(9);
            due("clock(" + t + ")", x.clock(t), m.clock(t));
            return;
        }
        int f = anyFind();
        int is = some(0, 1);
        due("drop(" + f + ", " + is + ")", x.drop(f, is), m.drop(f, is));
    }

    private void askCasts() {
        int c = anyCast();
        int d = anyCast();
        int months = some(0, 12);
        int ax = random.nextBoolean() ? 9 * random.nextInt(2) : some(0, 9);
        int ay = random.nextBoolean() ? 5 * random.nextInt(2) : some(0, 5);
        int what = some(0, 5);
        due("about(" + c + ", " + what + ")", x.about(c, what), m.about(c, what));
        due("parts(" + c + ", " + months + ", " + what + ")", x.parts(c, months, what), m.parts(c, months, what));
        due("cell(" + ax + ", " + ay + ", " + what + ")", x.cell(ax, ay, what), m.cell(ax, ay, what));
        int less = some(0, 2);
        due("partsAt(" + c + ", " + months + ", " + ax + ", " + ay + ", " + less + ")",
            x.partsAt(c, months, ax, ay, less), m.partsAt(c, months, ax, ay, less));
        due("apart(" + c + ", " + d + ")", x.apart(c, d), m.apart(c, d));
    }

    private void askFinds() {
        int f = anyFind();
        int c = anyCast();
        int n = some(-1, m.names.size());
        int asOf = anyTime();
        due("weight(" + f + ", " + c + ")", x.weight(f, c), m.weight(f, c));
        due("judge(" + f + ")", x.judge(f), m.judge(f));
        due("best(" + f + ")", x.best(f), m.best(f));
        due("cards(" + f + ")", x.cards(f), m.cards(f));
        due("twin(" + f + ")", x.twin(f), m.twin(f));
        due("got(" + c + ", " + n + ", " + asOf + ")", x.got(c, n, asOf), m.got(c, n, asOf));
    }

    private void askShifts() {
        int region = some(0, 2);
        switch (random.nextInt(5)) {
            case 0: due("fit(" + region + ")", x.fit(region), m.fit(region)); break;
            case 1: due("misfit()", x.misfit(), m.misfit()); break;
            case 2: due("misses()", x.misses(), m.misses()); break;
            case 3: due("doubt(" + region + ")", x.doubt(region), m.doubt(region)); break;
            default: {
                int kind = some(0, 3);
                int month = some(0, 47);
                int place = 6 * some(1, 8) + some(1, 4);
                due("tells(" + kind + ", " + month + ", " + place + ", " + region + ")",
                    x.tells(kind, month, place, region), m.tells(kind, month, place, region));
            }
        }
    }

    private String number() {
        return random.nextInt(9) == 0 ? "" + random.nextInt(20000) : "" + random.nextInt(random.nextBoolean() ? 6 : 800);
    }

    private String prizeText() {
        StringBuilder b = new StringBuilder("prize ").append(number());
        int tests = random.nextInt(9) == 0 ? 4 : random.nextInt(4);
        for (int i = 0; i < tests; i++) {
            b.append(i == 0 ? " if " : "&").append(random.nextBoolean() ? "!" : "").append(FIELDS[random.nextInt(5)]);
            b.append("=<>".charAt(random.nextInt(3))).append(number());
        }
        if (random.nextInt(2) == 0) {
            int at = random.nextInt(b.length());
            switch (random.nextInt(4)) {
                case 0: b.setLength(at); break;
                case 1: b.insert(at, " !&=<>09prizefmkt".charAt(random.nextInt(17))); break;
                case 2: b.deleteCharAt(at); break;
                default: b.setCharAt(at, (char) random.nextInt(256));
            }
        }
        return b.toString();
    }

    private void prize() {
        String text = prizeText();
        for (int at = 0; at < text.length(); ) {
            int n = Math.min(1 + random.nextInt(8), text.length() - at);
            long w = random.nextLong();
            for (int i = 0; i < n; i++) w = w << 8 | text.charAt(at + i);
            due("feed(" + w + ", " + n + ")", x.feed(w, n), m.feed(w, n));
            at += n;
        }
        int n = some(1, 8);
        if (n < 1 || n > 8) due("feed(1, " + n + ")", x.feed(1, n), m.feed(1, n));
        if (random.nextInt(8) > 0) due("prize()", x.prize(), m.prize());
    }

    private void askPrizes() {
        int f = anyFind();
        int asOf = anyTime();
        int tongue = some(0, 5);
        int what = some(0, 7);
        due("pays(" + f + ")", x.pays(f), m.pays(f));
        due("purse(" + asOf + ")", x.purse(asOf), m.purse(asOf));
        due("letters(" + tongue + ", " + asOf + ")", x.letters(tongue, asOf), m.letters(tongue, asOf));
        due("count(" + what + ")", x.count(what), m.count(what));
    }
}
