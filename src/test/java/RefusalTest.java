import java.util.ArrayList;
import java.util.List;

/**
 * "A call that is refused changes nothing." Each refused call by itself is made on one of two
 * objects that are alike otherwise; both must then answer alike, now and in the minutes to come.
 */
public final class RefusalTest {
    private static final int MIN = Integer.MIN_VALUE;
    private static final int MAX = Integer.MAX_VALUE;

    private interface Call {
        long answer(GrateLayers x);
    }

    private interface Start {
        GrateLayers make();
    }

    private static final class Refused {
        final String name;
        final long due;
        final Call call;

        Refused(String name, long due, Call call) {
            this.name = name;
            this.due = due;
            this.call = call;
        }
    }

    public static void main(String[] args) {
        List<Refused> always = new ArrayList<>();
        bunkerCalls(always);
        settings(always);
        controls(always);
        looks(always);
        for (Refused r : always) {
            changesNothing("busy", RefusalTest::busy, r);
            changesNothing("new", () -> new GrateLayers(2), r);
        }
        changesNothing("full", RefusalTest::full, no("bunker(3, 2, 1)", x -> x.bunker(3, 2, 1)));
        changesNothing("full", RefusalTest::full,
            no("bunker(3, 0, 100000)", x -> x.bunker(3, 0, 100000)));
        changesNothing("empty", RefusalTest::emptied, none("plan(1)", x -> x.plan(1)));
        changesNothing("empty", RefusalTest::emptied, none("plan(4)", x -> x.plan(4)));
        for (int minutes : new int[] {6, 7, 1000}) {
            changesNothing("late", RefusalTest::late,
                none("run(" + minutes + ")", x -> x.run(minutes)));
        }
        probesSeeEachSetting();
        Check.end();
    }

    private static Refused no(String name, java.util.function.Predicate<GrateLayers> call) {
        return new Refused(name, 0, x -> call.test(x) ? 1 : 0);
    }

    private static Refused none(String name, Call call) {
        return new Refused(name, -1, call);
    }

    private static void bunkerCalls(List<Refused> to) {
        for (int w : new int[] {-1, 4, MIN, MAX}) {
            to.add(no("kind(" + w + ", 9, 9)", x -> x.kind(w, 9, 9)));
            to.add(no("bunker(1, " + w + ", 9)", x -> x.bunker(1, w, 9)));
        }
        for (int w : new int[] {-1, 1001, MIN, MAX}) {
            to.add(no("kind(1, " + w + ", 0)", x -> x.kind(1, w, 0)));
            to.add(no("kind(1, 0, " + w + ")", x -> x.kind(1, 0, w)));
            to.add(no("kind(1, " + w + ", " + w + ")", x -> x.kind(1, w, w)));
        }
        to.add(no("kind(1, 501, 500)", x -> x.kind(1, 501, 500)));
        to.add(no("kind(1, 1, 1000)", x -> x.kind(1, 1, 1000)));
        to.add(no("kind(1, 1001, -1)", x -> x.kind(1, 1001, -1)));
        to.add(no("kind(1, -1, 1001)", x -> x.kind(1, -1, 1001)));
        for (int w : new int[] {-1, 6, MIN, MAX}) {
            to.add(no("bunker(" + w + ", 1, 9)", x -> x.bunker(w, 1, 9)));
            to.add(none("grab(" + w + ")", x -> x.grab(w)));
        }
        for (int w : new int[] {-1, 100001, MIN, MAX}) {
            to.add(no("bunker(1, 1, " + w + ")", x -> x.bunker(1, 1, w)));
        }
        for (int w : new int[] {0, -1, 10001, MIN, MAX}) {
            to.add(no("crane(" + w + ")", x -> x.crane(w)));
        }
    }

    private static void settings(List<Refused> to) {
        for (int w : new int[] {-1, 2, 6, MIN, MAX}) {
            to.add(no("air(" + w + ", 9, 9)", x -> x.air(w, 9, 9)));
        }
        for (int w : new int[] {-1, 100001, MIN, MAX}) {
            to.add(no("air(1, " + w + ", 9)", x -> x.air(1, w, 9)));
        }
        for (int w : new int[] {-1, 1001, MIN, MAX}) {
            to.add(no("air(1, 9, " + w + ")", x -> x.air(1, 9, w)));
            to.add(no("set(" + w + ", 9)", x -> x.set(w, 9)));
            to.add(no("set(9, " + w + ")", x -> x.set(9, w)));
        }
        for (int w : new int[] {-1, 1000000001, MIN, MAX}) {
            to.add(no("burner(" + w + ", 9)", x -> x.burner(w, 9)));
        }
        for (int w : new int[] {-1, 1000001, MIN, MAX}) {
            to.add(no("burner(9, " + w + ")", x -> x.burner(9, w)));
        }
    }

    private static void controls(List<Refused> to) {
        for (int w : new int[] {-1, 2, MIN, MAX}) {
            to.add(no("control(" + w + ", 9, 9, 9)", x -> x.control(w, 9, 9, 9)));
        }
        for (int k = 0; k <= 1; k++) {
            int c = k;
            for (int w : new int[] {-1, 1000000001, MIN, MAX}) {
                to.add(no("control(" + c + ", " + w + ", 9, 9)", x -> x.control(c, w, 9, 9)));
            }
            for (int w : new int[] {-1001, 1001, MIN, MAX}) {
                to.add(no("control(" + c + ", 9, " + w + ", 9)", x -> x.control(c, 9, w, 9)));
                to.add(no("control(" + c + ", 9, 9, " + w + ")", x -> x.control(c, 9, 9, w)));
            }
        }
    }

    private static void looks(List<Refused> to) {
        for (int w : new int[] {0, -1, 1001, MIN, MAX}) {
            to.add(none("run(" + w + ")", x -> x.run(w)));
        }
        for (int w : new int[] {0, -1, 5, MIN, MAX}) {
            to.add(none("plan(" + w + ")", x -> x.plan(w)));
        }
        for (int w : new int[] {-1, 10, MIN, MAX}) {
            to.add(none("share(" + w + ", 0)", x -> x.share(w, 0)));
            to.add(none("share(0, " + w + ")", x -> x.share(0, w)));
            to.add(none("bed(" + w + ", 0)", x -> x.bed(w, 0)));
            to.add(none("bed(0, " + w + ")", x -> x.bed(0, w)));
            to.add(none("gas(" + w + ")", x -> x.gas(w)));
            to.add(none("output(" + w + ")", x -> x.output(w)));
            to.add(none("ash(" + w + ")", x -> x.ash(w)));
            to.add(none("balance(" + w + ")", x -> x.balance(w)));
            to.add(none("planned(" + w + ")", x -> x.planned(w)));
        }
    }

    /** All is told, something lies everywhere, and a grab waits. */
    private static GrateLayers busy() {
        GrateLayers x = new GrateLayers(2);
        for (int kind = 0; kind < 4; kind++) {
            x.kind(kind, 100 + 50 * kind, 40 * kind);
            for (int cell = 0; cell < 6; cell++) {
                x.bunker(cell, kind, 500 + 100 * kind + 37 * cell);
            }
        }
        x.crane(600);
        x.air(0, 500, 300);
        x.air(1, 400, 350);
        x.set(150, 400);
        x.control(0, 500000, 2, 1);
        x.control(1, 4000, 100, 10);
        x.burner(800000, 12345);
        x.plan(3);
        x.grab(5);
        x.run(3);
        x.grab(4);
        return x;
    }

    private static GrateLayers full() {
        GrateLayers x = busy();
        int there = 0;
        for (int kind = 0; kind < 4; kind++) {
            there += x.share(3, kind);
        }
        Check.yes("prepared", x.bunker(3, 1, 100000 - there));
        return x;
    }

    private static GrateLayers emptied() {
        GrateLayers x = busy();
        x.crane(10000);
        for (int cell = 0; cell < 6; cell++) {
            x.grab(cell);
        }
        return x;
    }

    /** Five minutes are left. */
    private static GrateLayers late() {
        GrateLayers x = busy();
        for (int thousand = 0; thousand < 19; thousand++) {
            x.run(1000);
        }
        Check.same("prepared: run(992)", x.run(992), 19995);
        x.grab(3);
        return x;
    }

    private static void changesNothing(String state, Start start, Refused refused) {
        GrateLayers calm = start.make();
        GrateLayers pestered = start.make();
        String when = state + ": " + refused.name;
        Check.same(when, refused.call.answer(pestered), refused.due);
        List<Long> due = new ArrayList<>();
        List<Long> got = new ArrayList<>();
        look(calm, due);
        look(pestered, got);
        Check.yes(when + ": all answers are as before", got.equals(due));
        future(calm, due);
        future(pestered, got);
        Check.yes(when + ": all answers to come are as before", got.equals(due));
    }

    private static void look(GrateLayers x, List<Long> seen) {
        for (int what = 0; what <= 9; what++) {
            seen.add(x.ash(what));
        }
        for (int cell = 0; cell < 6; cell++) {
            for (int kind = 0; kind < 4; kind++) {
                seen.add((long) x.share(cell, kind));
            }
        }
        for (int a = 0; a < 4; a++) {
            seen.add(x.bed(0, a));
            seen.add(x.bed(1, a));
            seen.add(x.gas(a));
            seen.add((long) x.planned(a));
        }
        for (int a = 0; a < 2; a++) {
            seen.add((long) x.output(a));
            seen.add(x.balance(a));
        }
        seen.add(x.burning() ? 1L : 0L);
    }

    /** What the settings that no look shows do in the next minutes. */
    private static void future(GrateLayers x, List<Long> seen) {
        for (int minute = 0; minute < 3; minute++) {
            x.bunker(0, 1, 1000);
            seen.add((long) x.grab(0));
            seen.add((long) x.run(1));
            look(x, seen);
        }
    }

    /** The probe is no good if it does not see each setting: so each is changed here, by itself. */
    private static void probesSeeEachSetting() {
        List<Call> changes = new ArrayList<>();
        changes.add(x -> x.kind(1, 9, 40) ? 1 : 0);
        changes.add(x -> x.kind(1, 150, 9) ? 1 : 0);
        changes.add(x -> x.bunker(1, 1, 9) ? 1 : 0);
        changes.add(x -> x.crane(9) ? 1 : 0);
        changes.add(x -> x.air(1, (int) x.bed(1, 3), 9) ? 1 : 0);
        changes.add(x -> x.air(1, 9, 350) ? 1 : 0);
        changes.add(x -> x.set(Math.min(x.output(1), 1000), 9) ? 1 : 0);
        changes.add(x -> x.set(9, 400) ? 1 : 0);
        changes.add(x -> x.burner(9, 12345) ? 1 : 0);
        changes.add(x -> x.burner(800000, 9) ? 1 : 0);
        for (int k = 0; k <= 1; k++) {
            int c = k;
            changes.add(x -> x.control(c, c == 0 ? 500000 : 4000, c == 0 ? 2 : 100, c == 0 ? 1 : 10)
                ? 1 : 0);
        }
        for (int t = 0; t < changes.size(); t++) {
            GrateLayers calm = busy();
            GrateLayers changed = busy();
            Check.same("change " + t, changes.get(t).answer(changed), 1);
            List<Long> due = new ArrayList<>();
            List<Long> got = new ArrayList<>();
            look(calm, due);
            look(changed, got);
            future(calm, due);
            future(changed, got);
            Check.no("change " + t + " is missed", got.equals(due));
        }
        controlsAreSeen();
    }

    /** Targets, P and I that are told alike but for one of them. */
    private static void controlsAreSeen() {
        int[][] told = {{0, 500000, 2, 1}, {0, 9, 2, 1}, {0, 500000, 9, 1}, {0, 500000, 2, 9},
            {1, 4000, 100, 10}, {1, 9, 100, 10}, {1, 4000, 9, 10}, {1, 4000, 100, 9}};
        for (int t = 0; t < told.length; t++) {
            int[] asItWas = told[t < 4 ? 0 : 4];
            GrateLayers calm = busy();
            GrateLayers changed = busy();
            calm.control(asItWas[0], asItWas[1], asItWas[2], asItWas[3]);
            changed.control(told[t][0], told[t][1], told[t][2], told[t][3]);
            List<Long> due = new ArrayList<>();
            List<Long> got = new ArrayList<>();
            future(calm, due);
            future(changed, got);
            boolean alike = got.equals(due);
            Check.same("controls " + t + " answer alike", alike ? 1 : 0, t % 4 == 0 ? 1 : 0);
        }
    }
}
