/**
 * Numbers as great as 512 calls can make them: none of them wraps around, and the last of the calls
 * answers like the first.
 */
public final class GreatNumbersTest {
    private static final int MOST_BELOW = 1000000000;
    private static final int ROUNDS = 22;
    private static final int KILOGRAMS = 2200000;

    public static void main(String[] args) {
        sharesOfAGreatGrab();
        movesOfAGreatBed();
        dryingsOfAGreatBed();
        heatForDryingMuch();
        greatFire();
        steamOfGreatHeat();
        controllersOfGreatSteam();
        burnerOfAllMinutes();
        partsOfAController();
        theLastOf512Calls();
        Check.end();
    }

    /** 2200000 kilograms of kind 0 are grabbed, by 242 calls and one for the crane. */
    private static void grabMuch(GrateLayers x) {
        x.crane(10000);
        for (int round = 0; round < ROUNDS; round++) {
            Check.yes("bunker(0, 0, 100000)", x.bunker(0, 0, 100000));
            for (int grab = 0; grab < 10; grab++) {
                Check.same("grab(0)", x.grab(0), 10000);
            }
        }
    }

    /** "the shares' thousandths of its kilograms": 2200000 times 1000 is beyond an int. */
    private static void sharesOfAGreatGrab() {
        int[][] shares = {{0, 0}, {1000, 0}, {0, 1000}, {999, 1}, {1, 999}, {977, 0}, {0, 977}};
        for (int[] share : shares) {
            GrateLayers x = new GrateLayers(1);
            x.kind(0, share[0], share[1]);
            grabMuch(x);
            Check.balanced("grabbed", x);
            x.run(1);
            int water = 2200 * share[0];
            int ash = 2200 * share[1];
            Check.bed("shares " + share[0] + ", " + share[1], x, 0, water,
                KILOGRAMS - water - ash, ash);
            Check.same("ash(0)", x.ash(0), KILOGRAMS);
            Check.balanced("come", x);
        }
    }

    /** "the MOVE's thousandths of each of its three". */
    private static void movesOfAGreatBed() {
        int[][] shares = {{0, 0}, {1000, 0}, {0, 1000}};
        for (int[] share : shares) {
            GrateLayers x = new GrateLayers(2);
            x.kind(0, share[0], share[1]);
            grabMuch(x);
            x.set(999, 0);
            x.run(2);
            int what = share[0] == 1000 ? 0 : share[1] == 1000 ? 2 : 1;
            Check.same("bed(0, " + what + ")", x.bed(0, what), 2200);
            Check.same("bed(1, " + what + ")", x.bed(1, what), 2197800);
            x.run(1);
            Check.same("off", x.ash(what == 2 ? 4 : 3), 2195602);
            Check.balanced("moved", x);
        }
    }

    /** "its DRYING's thousandths of its water .. for each of these 2500 heat go". */
    private static void dryingsOfAGreatBed() {
        GrateLayers x = new GrateLayers(1);
        x.set(0, 0);
        x.air(0, 0, 0);
        x.burner(MOST_BELOW, 1000000);
        x.run(1000);
        x.kind(0, 1000, 0);
        grabMuch(x);
        x.run(1);
        Check.same("ash(9)", x.ash(9), 1000000000);
        x.burner(0, 0);
        x.air(0, 0, 1000);
        x.run(1);
        Check.gas("the heat is enough for 400000", x, 0, 0, 0, 400000);
        Check.bed("the heat is enough for 400000", x, 0, 1800000, 0, 0);
        Check.same("ash(8)", x.ash(8), 1000000000);
        Check.same("ash(9)", x.ash(9), 0);
    }

    /** "for each of these 2500 heat go": for 1000000 that dry in one minute. */
    private static void heatForDryingMuch() {
        GrateLayers x = new GrateLayers(1);
        x.set(0, 0);
        x.crane(10000);
        for (int load = 0; load < 13; load++) {
            x.bunker(load % 6, load < 3 ? 1 : 0, 100000);
            for (int grab = 0; grab < 10; grab++) {
                x.grab(load % 6);
            }
            if (load == 2) {
                x.air(0, 100000, 0);
                x.run(1000);
                x.kind(0, 1000, 0);
                x.air(0, 0, 1000);
                Check.same("300000 burnt: ash(9)", x.ash(9), 3000000000L);
            }
        }
        x.run(1);
        Check.gas("all dried", x, 0, 0, 0, 1000000);
        Check.same("ash(8)", x.ash(8), 2500000000L);
        Check.same("ash(9)", x.ash(9), 500000000L);
        Check.balanced("all dried", x);
    }

    /** "50 thousandths of its fuel and 1 more"; "for each of these 10000 heat come". */
    private static void greatFire() {
        GrateLayers x = new GrateLayers(1);
        x.set(0, 0);
        grabMuch(x);
        x.air(0, 100000, 0);
        x.run(1);
        Check.gas("16666 by its air", x, 0, 4, 16666, 0);
        Check.same("ash(9)", x.ash(9), 166660000);
        x.run(99);
        // 533400 are left, of which 26671 could burn: the air is the least all the time.
        Check.same("ash(2)", x.ash(2), 1666600);
        Check.same("ash(5)", x.ash(5), 16666000000L);
        Check.same("ash(9)", x.ash(9), 16666000000L);
        x.run(1000);
        Check.bed("all burnt", x, 0, 0, 0, 0);
        Check.same("ash(2)", x.ash(2), KILOGRAMS);
        Check.same("ash(5)", x.ash(5), 22000000000L);
        Check.same("ash(9)", x.ash(9), 22000000000L);
        Check.balanced("all burnt", x);
    }

    /** The 22000000000 heat of 2200000 kilograms. */
    private static GrateLayers hot() {
        GrateLayers x = new GrateLayers(1);
        x.set(0, 0);
        grabMuch(x);
        x.air(0, 100000, 0);
        x.run(1000);
        x.run(1000);
        Check.same("prepared: ash(9)", x.ash(9), 22000000000L);
        return x;
    }

    /** "STEAM is the boiler's thousandths of the furnace's heat". */
    private static void steamOfGreatHeat() {
        GrateLayers x = hot();
        x.burner(MOST_BELOW, 5);
        x.set(0, 999);
        x.run(1);
        Check.no("22000000000 is not below: burning()", x.burning());
        Check.same("gas(0)", x.gas(0), 21978000000L);
        Check.same("ash(7)", x.ash(7), 21978000000L);
        Check.same("ash(9)", x.ash(9), 22000000L);
        Check.balanced("steam", x);
        x.run(1);
        Check.yes("22000000 is below: burning()", x.burning());
        Check.same("gas(0)", x.gas(0), 21978004L);
        Check.same("ash(7)", x.ash(7), 21999978004L);
    }

    /** "e is its target less what it looks at", far below 0. */
    private static void controllersOfGreatSteam() {
        GrateLayers x = hot();
        x.set(0, 1000);
        x.control(0, 0, 1000, 1000);
        x.run(1);
        Check.same("e is -22000000000: output(0)", x.output(0), 0);
        GrateLayers y = hot();
        y.set(0, 1000);
        y.control(0, 1000000000, -1000, 0);
        y.run(1);
        Check.same("e is -21000000000: output(0)", y.output(0), 100000);
        GrateLayers z = hot();
        z.set(0, 1000);
        z.control(0, 499999999, -1000, -1000);
        z.run(2);
        Check.same("the sum was cut to -1000000000: output(0)", z.output(0), 2);
    }

    /** 20000 minutes of 1000000 heat, all of it steam. */
    private static void burnerOfAllMinutes() {
        GrateLayers x = new GrateLayers(1);
        x.set(0, 1000);
        x.burner(1, 1000000);
        for (int thousand = 1; thousand <= 20; thousand++) {
            Check.same("run(1000)", x.run(1000), 1000 * thousand);
        }
        Check.same("ash(6)", x.ash(6), 20000000000L);
        Check.same("ash(7)", x.ash(7), 20000000000L);
        Check.same("gas(0)", x.gas(0), 1000000);
        Check.balanced("all minutes", x);
    }

    /** "(P times e and I times the sum, together)": each by itself is beyond an int. */
    private static void partsOfAController() {
        int[][] gains = {{1000, 0}, {0, 1000}, {3, 0}, {0, 3}, {5, 0}, {0, 5}, {1000, 1000}};
        for (int[] gain : gains) {
            for (int k = 0; k <= 1; k++) {
                GrateLayers x = new GrateLayers(1);
                x.control(k, 1000000000, gain[0], gain[1]);
                x.run(1);
                Check.same("P " + gain[0] + ", I " + gain[1], x.output(k), 100000);
            }
        }
        GrateLayers x = new GrateLayers(1);
        x.control(0, 1000000000, -1000, 1000);
        x.run(20);
        Check.same("P -1000, I 1000", x.output(0), 0);
    }

    /** "An object is used for at most 512 calls after it has been made". */
    private static void theLastOf512Calls() {
        GrateLayers x = new GrateLayers(6);
        int calls = 0;
        while (calls < 24) {
            x.bunker(calls / 4, calls % 4, 1 + calls * calls % 7);
            calls++;
        }
        while (calls < 44) {
            x.run(1000);
            calls++;
        }
        while (calls < 510) {
            Check.yes("plan(4)", x.plan(4) >= 0);
            calls++;
        }
        Check.same("call 511: run(1)", x.run(1), -1);
        Check.same("call 512: ash(0)", x.ash(0), 71);
    }
}
