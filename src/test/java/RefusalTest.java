import java.util.ArrayList;
import java.util.List;
import java.util.Random;

/**
 * A call that is refused changes nothing, and no call throws: of two objects one gets wrong calls
 * among the right ones, and both must answer alike to the end.
 */
public final class RefusalTest {
    private static final int[] WILD = {Integer.MIN_VALUE, Integer.MIN_VALUE + 1, -1000000001, -1001,
        -1, 1000000001, Integer.MAX_VALUE - 1, Integer.MAX_VALUE};

    public static void main(String[] args) {
        for (int seed = 0; seed < 300; seed++) {
            Random random = new Random(seed);
            GrateLayers calm = new GrateLayers(1 + seed % 6);
            GrateLayers pestered = new GrateLayers(1 + seed % 6);
            prepare(calm);
            prepare(pestered);
            for (int round = 0; round < 3; round++) {
                refuse(pestered, random);
                Check.yes("seed " + seed + ": alike", look(pestered).equals(look(calm)));
                calm.grab(round);
                pestered.grab(round);
                calm.run(2);
                pestered.run(2);
            }
            Check.yes("seed " + seed + ": alike at the end", look(pestered).equals(look(calm)));
        }
        Check.end();
    }

    private static void prepare(GrateLayers x) {
        for (int kind = 0; kind < 4; kind++) {
            x.kind(kind, 100 + 50 * kind, 40 * kind);
            for (int cell = 0; cell < 6; cell++) {
                x.bunker(cell, kind, 500 + 100 * kind + 37 * cell);
            }
        }
        x.crane(600);
        x.air(0, 500, 300);
        x.set(150, 400);
        x.control(0, 90000, 9, 3);
        x.control(1, 300, 700, 20);
        x.burner(80000, 12345);
        x.plan(3);
        x.grab(5);
        x.run(3);
        x.grab(4);
    }

    private static int wild(Random random) {
        return WILD[random.nextInt(WILD.length)];
    }

    private static void refuse(GrateLayers x, Random random) {
        int w = wild(random);
        int gain = w == -1 ? 1001 : w;
        boolean[] done = {x.kind(w, 1, 1), x.kind(1, w, 1), x.kind(1, 1, w), x.bunker(w, 1, 1),
            x.bunker(1, w, 1), x.bunker(1, 1, w), x.bunker(1, 1, 99999), x.crane(w), x.air(w, 1, 1),
            x.air(0, w, 1), x.air(0, 1, w), x.set(w, 1), x.set(1, w), x.control(w, 1, 1, 1),
            x.control(0, w, 1, 1), x.control(1, 1, gain, 1), x.control(1, 1, 1, gain),
            x.burner(w, 1), x.burner(1, w)};
        for (int i = 0; i < done.length; i++) {
            Check.no("refused call " + i + " with " + w, done[i]);
        }
        long[] none = {x.grab(w), x.share(w, 1), x.share(1, w), x.run(w), x.bed(w, 1), x.bed(0, w),
            x.gas(w), x.output(w), x.ash(w), x.balance(w), x.plan(w), x.planned(w)};
        for (int i = 0; i < none.length; i++) {
            Check.same("refused look " + i + " with " + w, none[i], -1);
        }
    }

    private static List<Long> look(GrateLayers x) {
        List<Long> seen = new ArrayList<>();
        for (int a = 0; a < 10; a++) {
            seen.add(x.ash(a));
        }
        for (int a = 0; a < 6; a++) {
            for (int b = 0; b < 4; b++) {
                seen.add((long) x.share(a, b));
                seen.add(x.bed(a, b));
            }
        }
        for (int a = 0; a < 4; a++) {
            seen.add(x.gas(a));
            seen.add((long) x.planned(a));
            seen.add((long) x.output(a));
            seen.add(x.balance(a));
        }
        seen.add(x.burning() ? 1L : 0L);
        return seen;
    }
}
