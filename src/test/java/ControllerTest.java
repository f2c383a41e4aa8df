/** Promises 9 and 14: controllers and their outputs. */
public final class ControllerTest {
    private static final int[] WILD = {Integer.MIN_VALUE, Integer.MAX_VALUE};

    public static void main(String[] args) {
        steamSetsTheAir();
        oxygenSetsTheMove();
        outputIsCut();
        sumIsCutAbove();
        sumIsCutBelow();
        tellingAgainBeginsAnew();
        setAndAirHoldUntilTheNextMinute();
        steamOfTheMinuteIsLookedAt();
        wrongControllersAreRefused();
        Check.end();
    }

    private static void steamSetsTheAir() {
        GrateLayers x = new GrateLayers(3);
        Check.yes("control(0, 1000, 100, 10)", x.control(0, 1000, 100, 10));
        Check.same("none ran: output(0)", x.output(0), 0);
        Check.same("not told: output(1)", x.output(1), -1);
        x.run(1);
        Check.same("100000 and 10000: output(0)", x.output(0), 110);
        for (int zone = 0; zone < 3; zone++) {
            Check.same("bed(" + zone + ", 3)", x.bed(zone, 3), 110);
        }
        Check.gas("the air comes after the minute", x, 0, 0, 0, 0);
        x.run(1);
        Check.same("100000 and 20000: output(0)", x.output(0), 120);
        Check.gas("then it is there", x, 0, 330, 0, 0);
    }

    private static void oxygenSetsTheMove() {
        GrateLayers x = new GrateLayers(1);
        x.bunker(0, 0, 1000);
        x.grab(0);
        x.air(0, 3, 0);
        x.control(1, 10, 1000, 500);
        x.run(1);
        Check.same("7000 and 3500: output(1)", x.output(1), 10);
        x.run(1);
        Check.bed("the move is 10", x, 0, 0, 990, 0);
        x.control(1, 1000000000, 1, 0);
        x.run(1);
        Check.same("output(1)", x.output(1), 100000);
        x.run(1);
        Check.bed("the move is 1000 at most", x, 0, 0, 0, 0);
        Check.same("ash(3)", x.ash(3), 1000);
        Check.balanced("moved", x);
    }

    private static void outputIsCut() {
        long[] due = {0, 1, 99999, 100000, 100000, 0};
        int[] targets = {999, 1000, 99999999, 100000000, 100001000, 1000000000};
        for (int t = 0; t < targets.length; t++) {
            GrateLayers x = new GrateLayers(1);
            x.control(0, targets[t], t == 5 ? -1000 : 1, 0);
            x.run(1);
            Check.same("target " + targets[t] + ": output(0)", x.output(0), due[t]);
            Check.same("target " + targets[t] + ": bed(0, 3)", x.bed(0, 3), due[t]);
        }
    }

    private static void sumIsCutAbove() {
        GrateLayers x = new GrateLayers(1);
        x.control(0, 1000000000, -1, 1);
        x.run(3);
        Check.same("-1000000000 and 1000000000: output(0)", x.output(0), 0);
        x.control(0, 999999999, -999, 1000);
        x.run(1);
        Check.same("999999999: output(0)", x.output(0), 100000);
        x.control(0, 500000000, -2, 1);
        x.run(3);
        Check.same("cut at 1000000000, not at less: output(0)", x.output(0), 0);
        x.control(0, 490000000, -2, 1);
        x.run(3);
        Check.same("20000000 are over: output(0)", x.output(0), 20000);
    }

    private static void sumIsCutBelow() {
        GrateLayers x = new GrateLayers(1);
        x.set(0, 1000);
        x.burner(1, 1000000);
        x.control(0, 900000, 1000, 1);
        for (int t = 0; t < 11; t++) {
            x.run(1000);
        }
        Check.same("e was -100000: output(0)", x.output(0), 0);
        x.burner(0, 0);
        // From -1000000000 on e is 900000, and so P's part 900000000.
        x.run(111);
        Check.same("output(0)", x.output(0), 0);
        x.run(1);
        Check.same("output(0)", x.output(0), 800);
    }

    private static void tellingAgainBeginsAnew() {
        GrateLayers x = new GrateLayers(1);
        x.control(0, 5000, 0, 1000);
        x.run(4);
        Check.same("output(0)", x.output(0), 20000);
        x.control(0, 5000, 0, 1000);
        Check.same("none ran since: output(0)", x.output(0), 0);
        Check.same("the air stays: bed(0, 3)", x.bed(0, 3), 20000);
        x.run(1);
        Check.same("output(0)", x.output(0), 5000);
    }

    private static void setAndAirHoldUntilTheNextMinute() {
        GrateLayers x = new GrateLayers(1);
        x.set(0, 0);
        x.bunker(0, 0, 100);
        x.grab(0);
        x.control(0, 7000, 1, 0);
        x.control(1, 0, 0, 0);
        x.run(1);
        x.set(500, 0);
        x.air(0, 60, 0);
        Check.same("bed(0, 3)", x.bed(0, 3), 60);
        x.run(1);
        // Half has moved off, then 3 burnt of 50.
        Check.bed("what was set", x, 0, 0, 47, 0);
        Check.gas("what was set", x, 0, 42, 3, 0);
        Check.same("then the controller's: bed(0, 3)", x.bed(0, 3), 7);
        x.run(1);
        Check.bed("and its move of 0", x, 0, 0, 46, 0);
    }

    private static void steamOfTheMinuteIsLookedAt() {
        GrateLayers x = new GrateLayers(1);
        x.set(0, 500);
        x.burner(1000000000, 8000);
        x.control(0, 10000, 10, 0);
        x.control(1, 100, 1000, 0);
        x.run(1);
        Check.same("10000 less 4000: output(0)", x.output(0), 60);
        Check.same("100 less 0: output(1)", x.output(1), 100);
        x.run(1);
        Check.same("10000 less 6000: output(0)", x.output(0), 40);
        Check.same("100 less 60: output(1)", x.output(1), 40);
    }

    private static void wrongControllersAreRefused() {
        GrateLayers x = new GrateLayers(1);
        Check.yes("control(1, 1000000000, -1000, 1000)", x.control(1, 1000000000, -1000, 1000));
        Check.yes("control(0, 0, 1000, -1000)", x.control(0, 0, 1000, -1000));
        Check.yes("control(0, 3000, 1000, 0)", x.control(0, 3000, 1000, 0));
        x.run(1);
        Check.no("control(2, 0, 0, 0)", x.control(2, 0, 0, 0));
        Check.no("control(-1, 0, 0, 0)", x.control(-1, 0, 0, 0));
        Check.no("control(0, -1, 0, 0)", x.control(0, -1, 0, 0));
        Check.no("control(0, 1000000001, 0, 0)", x.control(0, 1000000001, 0, 0));
        Check.no("control(0, 0, 1001, 0)", x.control(0, 0, 1001, 0));
        Check.no("control(0, 0, -1001, 0)", x.control(0, 0, -1001, 0));
        Check.no("control(0, 0, 0, 1001)", x.control(0, 0, 0, 1001));
        Check.no("control(0, 0, 0, -1001)", x.control(0, 0, 0, -1001));
        for (int w : WILD) {
            Check.no("control(" + w + ", 0, 0, 0)", x.control(w, 0, 0, 0));
            Check.no("control(0, " + w + ", 0, 0)", x.control(0, w, 0, 0));
            Check.no("control(0, 0, " + w + ", 0)", x.control(0, 0, w, 0));
            Check.no("control(0, 0, 0, " + w + ")", x.control(0, 0, 0, w));
            Check.same("output(" + w + ")", x.output(w), -1);
        }
        Check.same("output(-1)", x.output(-1), -1);
        Check.same("output(2)", x.output(2), -1);
        Check.same("as it was: output(0)", x.output(0), 3000);
        x.run(1);
        Check.same("as it was: output(0)", x.output(0), 3000);
    }
}
