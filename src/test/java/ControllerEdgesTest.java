/**
 * The edges that the document names of controllers (Terms, a minute's step (5), promises 9 and 14).
 * Above each test stands the sentence that it is for.
 */
public final class ControllerEdgesTest {
    private static final int MIN = Integer.MIN_VALUE;
    private static final int MAX = Integer.MAX_VALUE;
    private static final int MOST_TARGET = 1000000000;

    public static void main(String[] args) {
        controllersAreZeroAndOne();
        targetIsZeroToAThousandMillion();
        pIsThousandAtMostEitherWay();
        iIsThousandAtMostEitherWay();
        noControllersAtFirst();
        outputIsZeroWhenNoneRanSinceItWasTold();
        outputIsOfTheLatestMinute();
        outputOfNoneSuchIsNone();
        theSumIsZeroWhenItIsTold();
        theSumIsCutAbove();
        theSumIsCutBelow();
        outputGoesDown();
        outputIsNoLessThanZero();
        outputIsHundredThousandAtMost();
        partsAreAddedBeforeTheyGoDown();
        steamSetsTheAirOfEachZone();
        theMoveIsThousandAtMost();
        eachLooksAtItsOwn();
        whatIsToldHoldsForOneMinute();
        Check.end();
    }

    /** An object whose steam is so much in each minute. */
    private static GrateLayers steaming(int steam) {
        GrateLayers x = new GrateLayers(1);
        x.set(0, 1000);
        x.burner(1, steam);
        return x;
    }

    /** An object whose oxygen is so much in each minute, for there is nothing to burn. */
    private static GrateLayers breathing(int oxygen) {
        GrateLayers x = new GrateLayers(1);
        x.air(0, oxygen, 0);
        return x;
    }

    /** "A controller, 0 (of steam) or 1 (of oxygen), is told". */
    private static void controllersAreZeroAndOne() {
        GrateLayers x = new GrateLayers(1);
        for (int k : new int[] {-1, 2, MIN, MAX}) {
            Check.no("control(" + k + ", 5, 1000, 0)", x.control(k, 5, 1000, 0));
        }
        Check.same("not told: output(0)", x.output(0), -1);
        Check.same("not told: output(1)", x.output(1), -1);
        Check.yes("control(0, 5, 1000, 0)", x.control(0, 5, 1000, 0));
        Check.same("not told: output(1)", x.output(1), -1);
        Check.yes("control(1, 6, 1000, 0)", x.control(1, 6, 1000, 0));
        x.run(1);
        Check.same("output(0)", x.output(0), 5);
        Check.same("output(1)", x.output(1), 6);
    }

    /** "target 0 .. 1000000000". */
    private static void targetIsZeroToAThousandMillion() {
        for (int k = 0; k <= 1; k++) {
            for (int target = 0; target <= 2; target++) {
                GrateLayers x = new GrateLayers(1);
                Check.yes("target " + target, x.control(k, target, 1000, 0));
                x.run(1);
                Check.same("target " + target + ": output(" + k + ")", x.output(k), target);
            }
            exactTarget(k, 999999990, 10);
            exactTarget(k, 999999999, 1);
            exactTarget(k, MOST_TARGET, 0);
            for (int target : new int[] {-1, MOST_TARGET + 1, MIN, MAX}) {
                GrateLayers x = new GrateLayers(1);
                x.control(k, 44, 1000, 0);
                String call = "control(" + k + ", " + target + ", 5, 5)";
                Check.no(call, x.control(k, target, 5, 5));
                x.run(1);
                Check.same("as it was after " + call, x.output(k), 44);
            }
        }
    }

    /** The sum, cut in the second minute, less the target: which is seen so to the last unit. */
    private static void exactTarget(int k, int target, int due) {
        GrateLayers x = new GrateLayers(1);
        Check.yes("target " + target, x.control(k, target, -1000, 1000));
        x.run(2);
        Check.same("target " + target + ": output(" + k + ")", x.output(k), due);
    }

    /** "P and I -1000 .. 1000": P. */
    private static void pIsThousandAtMostEitherWay() {
        int[] gains = {-1000, -999, -1, 0, 1, 999, 1000};
        int[] above = {0, 0, 0, 0, 5, 4995, 5000};
        int[] below = {5000, 4995, 5, 0, 0, 0, 0};
        for (int t = 0; t < gains.length; t++) {
            GrateLayers x = steaming(10000);
            Check.yes("P " + gains[t], x.control(0, 15000, gains[t], 0));
            x.run(1);
            Check.same("5000 more is wanted, P " + gains[t], x.output(0), above[t]);
            GrateLayers y = steaming(10000);
            y.control(0, 5000, gains[t], 0);
            y.run(1);
            Check.same("5000 less is wanted, P " + gains[t], y.output(0), below[t]);
        }
        for (int k = 0; k <= 1; k++) {
            for (int p : new int[] {-1001, 1001, MIN, MAX}) {
                GrateLayers x = new GrateLayers(1);
                x.control(k, 44, 1000, 0);
                Check.no("control(" + k + ", 9, " + p + ", 0)", x.control(k, 9, p, 0));
                x.run(1);
                Check.same("as it was, not P " + p, x.output(k), 44);
            }
        }
    }

    /** "P and I -1000 .. 1000": I. */
    private static void iIsThousandAtMostEitherWay() {
        int[] gains = {-1000, -999, -1, 0, 1, 999, 1000};
        int[] above = {0, 0, 0, 0, 15, 14985, 15000};
        int[] below = {15000, 14985, 15, 0, 0, 0, 0};
        for (int t = 0; t < gains.length; t++) {
            GrateLayers x = steaming(10000);
            Check.yes("I " + gains[t], x.control(0, 15000, 0, gains[t]));
            x.run(3);
            Check.same("3 times 5000 more, I " + gains[t], x.output(0), above[t]);
            GrateLayers y = steaming(10000);
            y.control(0, 5000, 0, gains[t]);
            y.run(3);
            Check.same("3 times 5000 less, I " + gains[t], y.output(0), below[t]);
        }
        for (int k = 0; k <= 1; k++) {
            for (int i : new int[] {-1001, 1001, MIN, MAX}) {
                GrateLayers x = new GrateLayers(1);
                x.control(k, 44, 1000, 0);
                Check.no("control(" + k + ", 9, 0, " + i + ")", x.control(k, 9, 0, i));
                x.run(1);
                Check.same("as it was, not I " + i, x.output(k), 44);
            }
        }
    }

    /** "no controllers" of a new object: they set nothing. */
    private static void noControllersAtFirst() {
        GrateLayers x = new GrateLayers(2);
        x.air(0, 30, 0);
        x.air(1, 40, 0);
        x.bunker(0, 1, 1000);
        x.kind(1, 0, 1000);
        x.grab(0);
        x.run(1);
        x.run(1);
        Check.same("the air stays: bed(0, 3)", x.bed(0, 3), 30);
        Check.same("the air stays: bed(1, 3)", x.bed(1, 3), 40);
        Check.same("the move stays 100: bed(1, 2)", x.bed(1, 2), 100);
        Check.same("output(0)", x.output(0), -1);
        Check.same("output(1)", x.output(1), -1);
    }

    /** "0 when none ran since it was told". */
    private static void outputIsZeroWhenNoneRanSinceItWasTold() {
        for (int k = 0; k <= 1; k++) {
            GrateLayers x = new GrateLayers(1);
            x.run(1);
            x.control(k, 70, 1000, 0);
            Check.same("told: output(" + k + ")", x.output(k), 0);
            Check.same("no minute: run(0)", x.run(0), -1);
            Check.same("no minute: output(" + k + ")", x.output(k), 0);
            x.run(1);
            Check.same("a minute: output(" + k + ")", x.output(k), 70);
            x.control(k, 70, 1000, 0);
            Check.same("told again: output(" + k + ")", x.output(k), 0);
            x.run(1);
            Check.same("a minute: output(" + k + ")", x.output(k), 70);
            Check.no("refused: control(" + k + ", -1, 0, 0)", x.control(k, -1, 0, 0));
            Check.same("not told again: output(" + k + ")", x.output(k), 70);
            x.control(1 - k, 5, 5, 5);
            Check.same("the other was told: output(" + k + ")", x.output(k), 70);
        }
    }

    /** "A controller's output in the latest minute". */
    private static void outputIsOfTheLatestMinute() {
        GrateLayers x = new GrateLayers(1);
        x.control(0, 3, 0, 1000);
        for (int minute = 1; minute <= 4; minute++) {
            x.run(1);
            Check.same("minute " + minute + ": output(0)", x.output(0), 3 * minute);
        }
        x.air(0, 77, 0);
        Check.same("air was told, not the controller: output(0)", x.output(0), 12);
        Check.same("run(1001)", x.run(1001), -1);
        Check.same("refused minutes: output(0)", x.output(0), 12);
    }

    /** "NONE when it is not told, or there is none such". */
    private static void outputOfNoneSuchIsNone() {
        GrateLayers x = new GrateLayers(1);
        x.control(0, 5, 1000, 0);
        x.control(1, 5, 1000, 0);
        x.run(1);
        for (int k : new int[] {-1, 2, MIN, MAX}) {
            Check.same("output(" + k + ")", x.output(k), -1);
        }
    }

    /** "its sum is 0 then". */
    private static void theSumIsZeroWhenItIsTold() {
        GrateLayers x = new GrateLayers(1);
        x.control(0, 500, 0, 1000);
        x.run(3);
        Check.same("output(0)", x.output(0), 1500);
        x.control(1, 9, 0, 1000);
        x.run(1);
        Check.same("the other was told: output(0)", x.output(0), 2000);
        Check.no("control(0, 500, 0, 1001)", x.control(0, 500, 0, 1001));
        x.run(1);
        Check.same("refused: output(0)", x.output(0), 2500);
        Check.yes("control(0, 500, 0, 1000)", x.control(0, 500, 0, 1000));
        x.run(1);
        Check.same("told again: output(0)", x.output(0), 500);
    }

    /** "its sum of all e grows by it, cut to -1000000000 .. 1000000000": above. */
    private static void theSumIsCutAbove() {
        // P takes the e of one minute off again, so that the sum is seen to the last unit.
        GrateLayers x = new GrateLayers(1);
        x.control(0, 999999950, -1000, 1000);
        x.run(1);
        Check.same("999999950 less e: output(0)", x.output(0), 0);
        x.run(1);
        Check.same("1000000000 less e: output(0)", x.output(0), 50);
        x.run(98);
        Check.same("1000000000 less e: output(0)", x.output(0), 50);
        GrateLayers y = new GrateLayers(1);
        y.set(0, 0);
        y.burner(1, 1000000);
        y.control(0, 499999999, -2, 1);
        y.run(2);
        Check.same("999999998, not cut yet: output(0)", y.output(0), 0);
        y.control(0, 499950000, -2, 1);
        y.run(2);
        Check.same("999900000 less 999900000: output(0)", y.output(0), 0);
        y.run(1);
        Check.same("1000000000 less 999900000: output(0)", y.output(0), 100);
    }

    /** "its sum of all e grows by it, cut to -1000000000 .. 1000000000": below. */
    private static void theSumIsCutBelow() {
        GrateLayers x = hot();
        x.set(0, 1000);
        x.control(0, 499999975, -1000, -1000);
        x.run(1);
        Check.same("e is -1500000025: gas(0)", x.gas(0), 2000000000);
        Check.same("e is -1500000025: output(0)", x.output(0), 100000);
        x.run(1);
        // The sum is -1000000000 and 499999975 more now; of it I's part, and e by P off it.
        Check.same("no steam: gas(0)", x.gas(0), 0);
        Check.same("500000025 less 499999975: output(0)", x.output(0), 50);
        GrateLayers y = hot();
        y.set(0, 500);
        y.control(0, 0, 0, -1000);
        y.run(1);
        Check.same("e is -1000000000: output(0)", y.output(0), 100000);
        y.set(0, 0);
        y.run(1000);
        Check.same("no e, but the sum is still there: output(0)", y.output(0), 100000);
    }

    /** An object with 2000000000 heat, of 200000 kilograms that burnt, and nothing on its zone. */
    private static GrateLayers hot() {
        GrateLayers x = new GrateLayers(1);
        x.set(0, 0);
        x.bunker(0, 0, 100000);
        x.bunker(1, 0, 100000);
        x.crane(10000);
        for (int grabs = 0; grabs < 10; grabs++) {
            x.grab(0);
            x.grab(1);
        }
        x.air(0, 100000, 0);
        x.run(1000);
        Check.same("prepared: ash(9)", x.ash(9), 2000000000);
        return x;
    }

    /** What controller 0 answers when e is target less 0. */
    private static void outputOf(int target, int p, int i, int due) {
        GrateLayers x = new GrateLayers(1);
        x.control(0, target, p, i);
        x.run(1);
        String when = "target " + target + ", P " + p + ", I " + i;
        Check.same(when + ": output(0)", x.output(0), due);
        Check.same(when + ": bed(0, 3)", x.bed(0, 3), due);
    }

    /** "over 1000, down". */
    private static void outputGoesDown() {
        outputOf(0, 1000, 1000, 0);
        outputOf(1, 999, 0, 0);
        outputOf(1, 1000, 0, 1);
        outputOf(999, 1, 0, 0);
        outputOf(1000, 1, 0, 1);
        outputOf(1001, 1, 0, 1);
        outputOf(1999, 1, 0, 1);
        outputOf(2000, 1, 0, 2);
        outputOf(1999, 0, 1, 1);
    }

    /** "cut to 0 .. 100000": 0. */
    private static void outputIsNoLessThanZero() {
        outputOf(1, -1, 0, 0);
        outputOf(999, -1, 0, 0);
        outputOf(1000, -1, 0, 0);
        outputOf(1001, -1, 0, 0);
        outputOf(MOST_TARGET, -1000, -1000, 0);
        GrateLayers x = breathing(500);
        x.control(1, 0, 1000, 1000);
        x.run(1);
        Check.same("e is -500: output(1)", x.output(1), 0);
    }

    /** "cut to 0 .. 100000": 100000. */
    private static void outputIsHundredThousandAtMost() {
        outputOf(99998, 1000, 0, 99998);
        outputOf(99999, 1000, 0, 99999);
        outputOf(100000, 1000, 0, 100000);
        outputOf(100001, 1000, 0, 100000);
        outputOf(99999999, 0, 1, 99999);
        outputOf(100000000, 0, 1, 100000);
        outputOf(100001000, 0, 1, 100000);
        outputOf(MOST_TARGET, 1000, 1000, 100000);
    }

    /** "(P times e and I times the sum, together) over 1000". */
    private static void partsAreAddedBeforeTheyGoDown() {
        outputOf(1, 500, 500, 1);
        outputOf(1, 500, 499, 0);
        outputOf(1, 999, 999, 1);
        outputOf(1, 1000, -1, 0);
        outputOf(1000, 1000, -1, 999);
        outputOf(2000, -1, 2, 2);
    }

    /** "controller 0's output becomes the air of all zones (each)". */
    private static void steamSetsTheAirOfEachZone() {
        for (int zones = 1; zones <= 6; zones++) {
            GrateLayers x = new GrateLayers(zones);
            x.control(0, 123, 1000, 0);
            x.run(1);
            for (int zone = 0; zone < zones; zone++) {
                Check.same(zones + " zones: bed(" + zone + ", 3)", x.bed(zone, 3), 123);
            }
            Check.same(zones + " zones, too late for this minute: gas(1)", x.gas(1), 0);
            x.run(1);
            Check.same(zones + " zones: gas(1)", x.gas(1), 123 * zones);
        }
    }

    /** "controller 1's the move, but 1000 at most". */
    private static void theMoveIsThousandAtMost() {
        int[] outputs = {0, 1, 999, 1000, 1001, 100000};
        int[] moves = {0, 1, 999, 1000, 1000, 1000};
        for (int t = 0; t < outputs.length; t++) {
            GrateLayers x = new GrateLayers(2);
            x.bunker(0, 0, 1000);
            x.grab(0);
            x.control(1, outputs[t], 1000, 0);
            x.run(1);
            Check.same("output(1)", x.output(1), outputs[t]);
            Check.bed("too late for this minute", x, 1, 0, 0, 0);
            x.run(1);
            String when = "output " + outputs[t];
            Check.bed(when, x, 0, 0, 1000 - moves[t], 0);
            Check.bed(when, x, 1, 0, moves[t], 0);
        }
    }

    /** "what it looks at (0 the steam, 1 the oxygen of this minute)". */
    private static void eachLooksAtItsOwn() {
        GrateLayers x = new GrateLayers(1);
        x.set(0, 1000);
        x.burner(1, 300);
        x.air(0, 20, 0);
        x.control(0, 1000, 1000, 0);
        x.control(1, 1000, 1000, 0);
        x.run(1);
        Check.same("1000 less 300: output(0)", x.output(0), 700);
        Check.same("1000 less 20: output(1)", x.output(1), 980);
        x.run(1);
        Check.same("1000 less 700: output(1)", x.output(1), 300);
        GrateLayers y = steaming(300);
        y.control(0, 300, 1000, 1000);
        y.run(5);
        Check.same("on its target: output(0)", y.output(0), 0);
        GrateLayers z = breathing(20);
        z.control(1, 20, 1000, 1000);
        z.run(5);
        Check.same("on its target: output(1)", z.output(1), 0);
    }

    /** "(5) Then each controller .. sets what it has": over what air and set told. */
    private static void whatIsToldHoldsForOneMinute() {
        GrateLayers x = new GrateLayers(1);
        x.control(0, 8, 1000, 0);
        x.control(1, 0, 0, 0);
        x.run(1);
        x.air(0, 55, 0);
        x.set(1000, 700);
        Check.same("told: bed(0, 3)", x.bed(0, 3), 55);
        x.bunker(0, 0, 100);
        x.grab(0);
        x.run(1);
        // 6 of 100 burnt, for which the air was enough.
        Check.same("set again: bed(0, 3)", x.bed(0, 3), 0);
        Check.same("the boiler is no controller's: gas(0)", x.gas(0), 42000);
        x.run(1);
        Check.bed("the move is 0 again", x, 0, 0, 94, 0);
    }
}
