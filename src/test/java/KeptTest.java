import java.util.ArrayList;
import java.util.List;

/**
 * An object that was asked between two changes answers like one that was not: whatever it keeps from earlier questions
 * never outlives a change.
 */
public final class KeptTest extends Bounds {
    interface Change {
        void on(Counted x);
    }

    private static final List<String> NAMES = new ArrayList<>();
    private static final List<Change> CHANGES = new ArrayList<>();

    public static void main(String[] args) {
        says("How the state is held inside the object is free");
        listChanges();
        for (int a = 0; a < CHANGES.size(); a++) {
            for (int b = 0; b < CHANGES.size(); b++) {
                String what = NAMES.get(a) + ", then " + NAMES.get(b);
                long[] fresh = answers(a, b, false, false);
                due(what + ": asked ahead of both", firstOther(fresh, answers(a, b, true, false)), -1);
                due(what + ": asked between", firstOther(fresh, answers(a, b, false, true)), -1);
                due(what + ": asked ahead and between", firstOther(fresh, answers(a, b, true, true)), -1);
            }
        }
        changesShow();
        end();
    }

    private static void change(String name, Change change) {
        NAMES.add(name);
        CHANGES.add(change);
    }

    private static void listChanges() {
        change("a region", x -> x.paint(3, 7, 2, 1, 0));
        change("sand", x -> x.paint(0, 9, 1, 2, 16));
        change("walked", x -> x.paint(9, 9, 2, 3, 1));
        change("ice", x -> x.paint(6, 7, 2, 4, 0xFF0));
        change("a current", x -> x.current(2, 4, 46, 34));
        change("wind", x -> x.wind(3, 3, -2));
        change("a storm", x -> x.storm(15, 3, 1));
        change("a calm", x -> x.calm(13));
        change("a shift", x -> x.move(2, 1));
        change("a cast", x -> x.cast(1, 240, 500, 20, place(7, 1), 200));
        change("a cast of a caster who has some", x -> x.cast(3, 260, 700, 13, place(6, 2), 0));
        change("a name", x -> x.name(709, 3, 2));
        change("a find", x -> x.find(0x02AA, 0, 0, 0, 60));
        change("a find that is dropped", x -> x.drop(0, 1));
        change("a find that is back", x -> x.drop(5, 0));
    }

    private static long[] answers(int a, int b, boolean askAhead, boolean askBetween) {
        Counted x = States.some();
        if (askAhead) ask(x);
        CHANGES.get(a).on(x);
        if (askBetween) ask(x);
        CHANGES.get(b).on(x);
        return ask(x);
    }

    private static long[] ask(Counted x) {
        List<Long> seen = new ArrayList<>();
        seen.add(x.misses());
        seen.add(x.misfit());
        for (int region = 0; region < 3; region++) {
            seen.add((long) x.fit(region));
            seen.add((long) x.doubt(region));
        }
        for (int f = 0; f < 7; f++) {
            for (int c = 0; c < 5; c++) seen.add((long) x.weight(f, c));
            seen.add((long) x.judge(f));
            seen.add((long) x.cards(f));
            seen.add((long) x.pays(f));
        }
        for (int c = 0; c < 5; c++) seen.add((long) x.got(c, -1, 999));
        seen.add((long) x.apart(0, 1));
        seen.add((long) x.parts(1, 12, 2));
        return seen.stream().mapToLong(v -> v).toArray();
    }

    private static int firstOther(long[] was, long[] is) {
        for (int i = 0; i < was.length; i++) {
            if (was[i] != is[i]) return i;
        }
        return -1;
    }

    /** Each change shows in some answer: else the pairs above would tell nothing. */
    private static void changesShow() {
        long[] before = ask(States.some());
        for (int a = 0; a < CHANGES.size(); a++) {
            Counted x = States.some();
            CHANGES.get(a).on(x);
            due(NAMES.get(a) + " shows", firstOther(before, ask(x)) >= 0 ? 1 : 0, 1);
        }
    }
}
