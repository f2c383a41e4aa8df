import com.sun.management.ThreadMXBean;
import java.lang.management.ManagementFactory;

/** All calls of a run live in one room: so what a call makes is counted here, and is nothing. */
public final class RoomTest {
    private static final int ROUNDS = 2000;
    private static final int CALLS_A_ROUND = 69;

    public static void main(String[] args) {
        ThreadMXBean threads = (ThreadMXBean) ManagementFactory.getThreadMXBean();
        GrateLayers x = new GrateLayers(6);
        // The machine itself makes something when a call, or its own counter, is used first.
        round(x, 0);
        round(x, 1);
        threads.getCurrentThreadAllocatedBytes();
        long before = threads.getCurrentThreadAllocatedBytes();
        for (int r = 0; r < ROUNDS; r++) {
            round(x, r);
        }
        long made = threads.getCurrentThreadAllocatedBytes() - before;
        // The least object has 16 bytes: one in each round would be seen.
        Check.yes(made + " bytes for " + ROUNDS * CALLS_A_ROUND + " calls", made < 8L * ROUNDS);
        Check.end();
    }

    /** Each call of the face, with what is right and, for r odd, with what is not. */
    private static void round(GrateLayers x, int r) {
        int off = r % 2 == 0 ? 0 : 1000000;
        for (int cell = 0; cell < 6; cell++) {
            x.bunker(cell, (r / 2 + cell) % 4 + off, 500 + r % 7);
            x.grab(cell + off);
            x.share(cell, r / 2 % 4 + off);
            x.air(cell, 600 + off, 200);
        }
        for (int what = 0; what < 10; what++) {
            x.ash(what + off);
            x.bed(what % 6 + off, what % 4);
            x.gas(what % 4 + off);
        }
        for (int k = 0; k < 2; k++) {
            x.control(k + off, 500000, 2, 1);
            x.output(k + off);
            x.balance(k + off);
            x.planned(k + off);
        }
        x.kind(r / 2 % 4 + off, 300, 100);
        // So little that something stays in the cells, for plans.
        x.crane(100 + off);
        x.set(100 + off, 500);
        x.burner(10000, 5000 + off);
        x.burning();
        x.plan(r / 2 % 4 + 1 + off);
        x.run(3 + off);
    }
}
