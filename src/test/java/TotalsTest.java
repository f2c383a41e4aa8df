/** Promises 16 and 17: what there was in all, and the balances. */
public final class TotalsTest {
    private static final int[] WILD = {-1, Integer.MIN_VALUE, Integer.MAX_VALUE};

    public static void main(String[] args) {
        totalsAreEachTheirOwn();
        balancesHoldInEveryState();
        wrongLooks();
        Check.end();
    }

    private static void totals(String when, GrateLayers x, long... due) {
        for (int what = 0; what < due.length; what++) {
            Check.same(when + ": ash(" + what + ")", x.ash(what), due[what]);
        }
    }

    private static void totalsAreEachTheirOwn() {
        GrateLayers x = new GrateLayers(1);
        x.kind(0, 200, 100);
        x.bunker(0, 0, 1000);
        x.bunker(1, 2, 5);
        x.grab(0);
        x.air(0, 60, 100);
        x.burner(200000, 30000);
        x.run(1);
        // 200 water, 700 fuel, 100 ash; 10 burn; the burner's heat comes; half is steam.
        totals("minute 0", x, 1005, 0, 10, 0, 0, 100000, 30000, 65000, 0, 65000);
        x.run(1);
        // 20 and 69 are lost, 10 are ash; of 180 water 18 dry; 10 burn: 65000 - 45000 + 100000.
        totals("minute 1", x, 1005, 18, 20, 89, 10, 200000, 60000, 140000, 45000, 75000);
        Check.balanced("minute 1", x);
        x.bunker(3, 3, 0);
        x.bunker(3, 3, 7);
        totals("7 more", x, 1012, 18, 20, 89, 10, 200000, 60000, 140000, 45000, 75000);
    }

    private static void balancesHoldInEveryState() {
        GrateLayers x = new GrateLayers(6);
        for (int kind = 0; kind < 4; kind++) {
            x.kind(kind, 311 - 91 * kind, 57 + 33 * kind);
            x.bunker(kind, kind, 7001 + 13 * kind);
            x.bunker(5, kind, 3003 - 17 * kind);
        }
        x.crane(777);
        x.burner(50000, 33333);
        x.set(123, 457);
        for (int zone = 0; zone < 6; zone++) {
            x.air(zone, 97 * zone + 50, 111 * zone);
        }
        for (int t = 0; t < 40; t++) {
            x.grab(t % 6);
            Check.balanced("grabbed, " + t, x);
            x.run(1 + t % 3);
            Check.balanced("ran, " + t, x);
        }
        Check.yes("something was lost", x.ash(3) > 0);
        Check.yes("something dried", x.ash(1) > 0);
        Check.yes("something burnt", x.ash(2) > 0);
        Check.yes("something is ash", x.ash(4) > 0);
    }

    private static void wrongLooks() {
        GrateLayers x = new GrateLayers(1);
        for (int w : WILD) {
            Check.same("ash(" + w + ")", x.ash(w), -1);
            Check.same("balance(" + w + ")", x.balance(w), -1);
        }
        Check.same("ash(10)", x.ash(10), -1);
        Check.same("balance(2)", x.balance(2), -1);
    }
}
