/** Promises 7, 8, 10, 11, 12, 13 and 15: settings, and how a minute goes. */
public final class MinuteTest {
    private static final int[] WILD = {-1, Integer.MIN_VALUE, Integer.MAX_VALUE};

    public static void main(String[] args) {
        burnsFuel();
        burnsByItsAir();
        burnsOneMoreThanFiftyThousandths();
        burnsWhenNoMoreWaterThanFuel();
        driesByItsHeat();
        driesBeforeItBurns();
        laterZonesUseTheHeatOfEarlierOnes();
        movesOneZoneAMinute();
        losesWaterAndFuelApartFromAsh();
        airIsSet();
        moveAndBoilerAreSet();
        burnerBurnsBelow();
        burnerHeatIsSteamInTheSameMinute();
        wrongBurnersAreRefused();
        minutesAreCounted();
        wrongLooks();
        Check.end();
    }

    /** One zone with so much water and fuel after minute 0, without move and boiler. */
    private static GrateLayers loaded(int water, int fuel) {
        GrateLayers x = new GrateLayers(1);
        x.set(0, 0);
        x.kind(0, 1000, 0);
        x.bunker(0, 0, water);
        x.bunker(0, 1, fuel);
        x.crane(10000);
        x.grab(0);
        x.run(1);
        return x;
    }

    private static void burnsFuel() {
        GrateLayers x = new GrateLayers(1);
        x.bunker(0, 0, 1000);
        x.grab(0);
        x.air(0, 600, 200);
        Check.same("run(1)", x.run(1), 1);
        Check.bed("minute 0", x, 0, 0, 949, 0);
        Check.gas("minute 0", x, 255000, 294, 51, 0);
        Check.same("run(1)", x.run(1), 2);
        Check.bed("minute 1", x, 0, 0, 949 - 94 - 43, 0);
        Check.gas("minute 1", x, 342500, 342, 43, 0);
        Check.balanced("minute 1", x);
    }

    private static void burnsByItsAir() {
        int[] airs = {0, 5, 6, 11, 12, 305, 306, 100000};
        int[] burnt = {0, 0, 1, 1, 2, 50, 51, 51};
        for (int t = 0; t < airs.length; t++) {
            GrateLayers x = loaded(0, 1000);
            x.air(0, airs[t], 0);
            x.run(1);
            Check.gas("air " + airs[t], x, 0, airs[t] - 6 * burnt[t], burnt[t], 0);
            Check.bed("air " + airs[t], x, 0, 0, 1000 - burnt[t], 0);
        }
    }

    private static void burnsOneMoreThanFiftyThousandths() {
        int[] fuels = {0, 1, 2, 19, 20, 39, 40, 41, 10000};
        int[] burnt = {0, 1, 1, 1, 2, 2, 3, 3, 501};
        for (int t = 0; t < fuels.length; t++) {
            GrateLayers x = loaded(0, fuels[t]);
            x.air(0, 10000, 0);
            x.run(1);
            Check.same("fuel " + fuels[t] + ": gas(2)", x.gas(2), burnt[t]);
            Check.same("fuel " + fuels[t] + ": ash(9)", x.ash(9), burnt[t] * 10000);
        }
    }

    private static void burnsWhenNoMoreWaterThanFuel() {
        GrateLayers even = loaded(50, 50);
        even.air(0, 600, 1000);
        even.run(1);
        Check.gas("as much water as fuel", even, 0, 582, 3, 0);
        GrateLayers wet = loaded(51, 50);
        wet.air(0, 600, 1000);
        wet.run(1);
        Check.gas("more water than fuel", wet, 0, 600, 0, 0);
    }

    private static void driesByItsHeat() {
        GrateLayers x = loaded(100, 0);
        x.air(0, 0, 1000);
        x.burner(1, 7499);
        x.run(1);
        Check.gas("no heat yet", x, 0, 0, 0, 0);
        Check.yes("burning()", x.burning());
        Check.same("ash(9)", x.ash(9), 7499);
        x.run(1);
        Check.gas("heat for two", x, 0, 0, 0, 2);
        Check.bed("heat for two", x, 0, 98, 0, 0);
        Check.same("ash(8)", x.ash(8), 5000);
        Check.same("ash(9)", x.ash(9), 2499);
        x.burner(1000000000, 1);
        x.run(1);
        Check.gas("2499 are too few", x, 0, 0, 0, 0);
        x.run(1);
        Check.gas("2500 are enough", x, 0, 0, 0, 1);
        Check.same("ash(9)", x.ash(9), 1);
        x.burner(1000000000, 1000000);
        x.run(1);
        x.air(0, 0, 999);
        x.run(1);
        Check.gas("999 thousandths of 97, down", x, 0, 0, 0, 96);
        Check.bed("999 thousandths of 97, down", x, 0, 1, 0, 0);
        Check.same("ash(1)", x.ash(1), 99);
        Check.balanced("dried", x);
    }

    private static void driesBeforeItBurns() {
        GrateLayers x = loaded(52, 50);
        x.burner(1, 5000);
        x.run(1);
        x.air(0, 6, 1000);
        x.run(1);
        Check.gas("dried, then burnt", x, 0, 0, 1, 2);
        // The burner's 5000 dried two, and what burnt came after: so no third was dried.
        Check.same("ash(9)", x.ash(9), 10000);
    }

    private static void laterZonesUseTheHeatOfEarlierOnes() {
        GrateLayers x = new GrateLayers(2);
        x.kind(0, 1000, 0);
        x.bunker(0, 0, 100);
        x.grab(0);
        x.run(1);
        x.set(1000, 0);
        x.bunker(0, 1, 1);
        x.grab(0);
        x.air(0, 6, 0);
        x.air(1, 7, 1000);
        x.run(1);
        Check.bed("zone 0 burnt", x, 0, 0, 0, 0);
        Check.bed("zone 1 dried by it", x, 1, 96, 0, 0);
        Check.gas("both", x, 0, 7, 1, 4);
        Check.same("ash(9)", x.ash(9), 0);
    }

    private static void movesOneZoneAMinute() {
        GrateLayers x = new GrateLayers(3);
        x.kind(0, 300, 100);
        x.bunker(0, 0, 10);
        x.grab(0);
        x.set(1000, 0);
        x.run(1);
        for (int zone = 0; zone < 3; zone++) {
            for (int other = 0; other < 3; other++) {
                boolean here = zone == other;
                Check.bed("minute " + zone, x, other, here ? 3 : 0, here ? 6 : 0, here ? 1 : 0);
            }
            Check.same("nothing is off yet", x.ash(3) + x.ash(4), 0);
            x.run(1);
        }
        Check.bed("off", x, 2, 0, 0, 0);
        Check.same("ash(3)", x.ash(3), 9);
        Check.same("ash(4)", x.ash(4), 1);
        Check.balanced("off", x);
    }

    private static void losesWaterAndFuelApartFromAsh() {
        GrateLayers x = new GrateLayers(1);
        x.kind(0, 333, 222);
        x.bunker(0, 0, 1000);
        x.grab(0);
        x.set(150, 0);
        x.run(1);
        Check.bed("came", x, 0, 333, 445, 222);
        x.run(1);
        // 49.95 water, 66.75 fuel and 33.3 ash, each down by itself.
        Check.bed("moved", x, 0, 284, 379, 189);
        Check.same("ash(3)", x.ash(3), 49 + 66);
        Check.same("ash(4)", x.ash(4), 33);
        Check.balanced("moved", x);
    }

    private static void airIsSet() {
        GrateLayers x = new GrateLayers(3);
        Check.yes("air(0, 100000, 1000)", x.air(0, 100000, 1000));
        Check.yes("air(2, 1, 0)", x.air(2, 1, 0));
        Check.no("air(3, 0, 0)", x.air(3, 0, 0));
        Check.no("air(0, 100001, 0)", x.air(0, 100001, 0));
        Check.no("air(0, 0, 1001)", x.air(0, 0, 1001));
        for (int w : WILD) {
            Check.no("air(" + w + ", 0, 0)", x.air(w, 0, 0));
            Check.no("air(0, " + w + ", 0)", x.air(0, w, 0));
            Check.no("air(0, 0, " + w + ")", x.air(0, 0, w));
        }
        Check.same("bed(0, 3)", x.bed(0, 3), 100000);
        Check.same("bed(1, 3)", x.bed(1, 3), 0);
        Check.same("bed(2, 3)", x.bed(2, 3), 1);
        x.run(1);
        Check.gas("nothing burnt", x, 0, 100001, 0, 0);
        Check.yes("air(0, 0, 0)", x.air(0, 0, 0));
        Check.same("bed(0, 3)", x.bed(0, 3), 0);
    }

    private static void moveAndBoilerAreSet() {
        GrateLayers x = loaded(0, 1001);
        x.burner(1000000000, 1001);
        Check.yes("set(500, 999)", x.set(500, 999));
        Check.no("set(1001, 0)", x.set(1001, 0));
        Check.no("set(0, 1001)", x.set(0, 1001));
        for (int w : WILD) {
            Check.no("set(" + w + ", 0)", x.set(w, 0));
            Check.no("set(0, " + w + ")", x.set(0, w));
        }
        x.run(1);
        Check.bed("half moved, down", x, 0, 0, 501, 0);
        Check.same("999 thousandths of 1001, down", x.gas(0), 999);
        Check.same("ash(9)", x.ash(9), 2);
        Check.yes("set(0, 1000)", x.set(0, 1000));
        x.run(1);
        Check.bed("no move", x, 0, 0, 501, 0);
        Check.same("all is steam", x.gas(0), 1003);
        Check.yes("set(1000, 0)", x.set(1000, 0));
        x.run(1);
        Check.bed("all moved", x, 0, 0, 0, 0);
        Check.same("no steam", x.gas(0), 0);
        Check.same("ash(7)", x.ash(7), 2002);
        Check.balanced("steam", x);
    }

    private static void burnerBurnsBelow() {
        GrateLayers x = new GrateLayers(1);
        x.set(0, 0);
        Check.yes("burner(0, 1000000)", x.burner(0, 1000000));
        x.run(1);
        Check.no("0 is not below 0: burning()", x.burning());
        Check.yes("burner(100, 60)", x.burner(100, 60));
        Check.no("told alone: burning()", x.burning());
        x.run(2);
        Check.yes("60 is below 100: burning()", x.burning());
        Check.same("ash(9)", x.ash(9), 120);
        x.run(1);
        Check.no("120 is not: burning()", x.burning());
        x.burner(120, 5);
        x.run(1);
        Check.no("120 is not below 120: burning()", x.burning());
        x.burner(121, 0);
        Check.no("told alone: burning()", x.burning());
        x.run(1);
        Check.yes("it burns with no heat too: burning()", x.burning());
        x.burner(0, 0);
        Check.yes("of the latest minute: burning()", x.burning());
        Check.same("ash(6)", x.ash(6), 120);
        Check.balanced("burner", x);
    }

    private static void burnerHeatIsSteamInTheSameMinute() {
        GrateLayers x = loaded(0, 10);
        x.set(0, 500);
        x.air(0, 6, 0);
        x.burner(10000, 3000);
        x.run(1);
        Check.no("what burnt is looked at: burning()", x.burning());
        Check.same("gas(0)", x.gas(0), 5000);
        x.air(0, 0, 0);
        x.run(1);
        Check.yes("burning()", x.burning());
        Check.same("gas(0)", x.gas(0), 4000);
        Check.same("ash(9)", x.ash(9), 4000);
    }

    private static void wrongBurnersAreRefused() {
        GrateLayers x = new GrateLayers(1);
        Check.no("burner(1000000001, 0)", x.burner(1000000001, 0));
        Check.no("burner(5, 1000001)", x.burner(5, 1000001));
        for (int w : WILD) {
            Check.no("burner(" + w + ", 5)", x.burner(w, 5));
            Check.no("burner(5, " + w + ")", x.burner(5, w));
        }
        x.run(1);
        Check.no("not told: burning()", x.burning());
        Check.yes("burner(1000000000, 1000000)", x.burner(1000000000, 1000000));
        x.run(1);
        Check.same("ash(6)", x.ash(6), 1000000);
        Check.no("burner(0, -1)", x.burner(0, -1));
        x.run(1);
        Check.same("ash(6)", x.ash(6), 2000000);
    }

    private static void minutesAreCounted() {
        GrateLayers x = new GrateLayers(1);
        x.set(0, 0);
        x.burner(1000000000, 1);
        Check.same("run(0)", x.run(0), -1);
        Check.same("run(1001)", x.run(1001), -1);
        for (int w : WILD) {
            Check.same("run(" + w + ")", x.run(w), -1);
        }
        Check.same("run(1)", x.run(1), 1);
        for (int m = 1; m < 20; m++) {
            Check.same("run(1000)", x.run(1000), 1000 * m + 1);
        }
        Check.same("run(1000)", x.run(1000), -1);
        Check.same("minutes that passed: ash(6)", x.ash(6), 19001);
        Check.same("run(998)", x.run(998), 19999);
        Check.same("run(2)", x.run(2), -1);
        Check.same("run(1)", x.run(1), 20000);
        Check.same("run(1)", x.run(1), -1);
        Check.same("minutes that passed: ash(6)", x.ash(6), 20000);
    }

    private static void wrongLooks() {
        GrateLayers x = new GrateLayers(2);
        for (int w : WILD) {
            Check.same("bed(" + w + ", 0)", x.bed(w, 0), -1);
            Check.same("bed(0, " + w + ")", x.bed(0, w), -1);
            Check.same("gas(" + w + ")", x.gas(w), -1);
        }
        Check.same("bed(2, 0)", x.bed(2, 0), -1);
        Check.same("bed(1, 4)", x.bed(1, 4), -1);
        Check.same("gas(4)", x.gas(4), -1);
    }
}
