/**
 * DriftCards with its calls counted: the document promises nothing of an object beyond its 512th call, so no test may
 * lean on a later one.
 */
final class Counted {
    static final int MOST_CALLS = 512;
    private final DriftCards x = new DriftCards();
    private int calls = 0;

    private DriftCards next() {
        calls++;
        if (calls > MOST_CALLS) throw new IllegalStateException("a test makes more than 512 calls on one object");
        return x;
    }

    int calls() {
        return calls;
    }

    /** For calls whose answers do not matter. */
    DriftCards bare() {
        return x;
    }

    int paint(int x0, int x1, int y, int what, int v) { return next().paint(x0, x1, y, what, v); }
    int cell(int cx, int cy, int what) { return next().cell(cx, cy, what); }
    int current(int region, int month, int east, int north) { return next().current(region, month, east, north); }
    int wind(int month, int east, int north) { return next().wind(month, east, north); }
    int storm(int month, int east, int north) { return next().storm(month, east, north); }
    int calm(int month) { return next().calm(month); }
    int cast(int kind, int first, int many, int month, int place, int more) {
        return next().cast(kind, first, many, month, place, more);
    }
    int about(int c, int what) { return next().about(c, what); }
    int parts(int c, int months, int what) { return next().parts(c, months, what); }
    int partsAt(int c, int months, int cx, int cy, int what) { return next().partsAt(c, months, cx, cy, what); }
    int apart(int c, int d) { return next().apart(c, d); }
    int name(int nx, int ny, int tongue) { return next().name(nx, ny, tongue); }
    int find(int row, int caster, int name, int from, int to) { return next().find(row, caster, name, from, to); }
    int clock(int t) { return next().clock(t); }
    int drop(int f, int is) { return next().drop(f, is); }
    int weight(int f, int c) { return next().weight(f, c); }
    int judge(int f) { return next().judge(f); }
    int best(int f) { return next().best(f); }
    int cards(int f) { return next().cards(f); }
    int twin(int f) { return next().twin(f); }
    int got(int c, int name, int asOf) { return next().got(c, name, asOf); }
    int move(int region, int v) { return next().move(region, v); }
    int fit(int region) { return next().fit(region); }
    long misfit() { return next().misfit(); }
    long misses() { return next().misses(); }
    int doubt(int region) { return next().doubt(region); }
    int tells(int kind, int month, int place, int region) { return next().tells(kind, month, place, region); }
    int feed(long w, int n) { return next().feed(w, n); }
    int prize() { return next().prize(); }
    int pays(int f) { return next().pays(f); }
    int purse(int asOf) { return next().purse(asOf); }
    int letters(int tongue, int asOf) { return next().letters(tongue, asOf); }
    int count(int what) { return next().count(what); }
}
