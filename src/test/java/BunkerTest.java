/** Promises 2 to 6: kinds, bunkers, the crane, grabs and shares. */
public final class BunkerTest {
    private static final int[] WILD = {-1, Integer.MIN_VALUE, Integer.MAX_VALUE};

    public static void main(String[] args) {
        kindsHaveShares();
        wrongKindsAreRefused();
        sharesAreThoseOfTheMinute();
        sharesAreTakenOfAllThatWasGrabbed();
        bunkersFill();
        wrongBunkersAreRefused();
        craneSetsTheGrab();
        grabsTakeExactShares();
        grabsComeInTheNextMinute();
        wrongGrabsAndShares();
        Check.end();
    }

    private static void kindsHaveShares() {
        GrateLayers x = new GrateLayers(1);
        Check.yes("kind(0, 333, 333)", x.kind(0, 333, 333));
        Check.yes("kind(1, 1000, 0)", x.kind(1, 1000, 0));
        Check.yes("kind(2, 0, 1000)", x.kind(2, 0, 1000));
        Check.yes("kind(3, 500, 500)", x.kind(3, 500, 500));
        x.bunker(0, 0, 999);
        x.grab(0);
        x.run(1);
        Check.bed("999 of kind 0", x, 0, 332, 335, 332);
        x.set(1000, 0);
        x.bunker(0, 1, 11);
        x.bunker(0, 2, 13);
        x.bunker(0, 3, 17);
        x.grab(0);
        x.run(1);
        Check.bed("all kinds", x, 0, 11 + 8, 1, 13 + 8);
        Check.yes("kind(3, 0, 0)", x.kind(3, 0, 0));
        x.bunker(0, 3, 5);
        x.grab(0);
        x.run(1);
        Check.bed("kind 3 all fuel again", x, 0, 0, 5, 0);
    }

    private static void wrongKindsAreRefused() {
        GrateLayers x = new GrateLayers(1);
        x.kind(0, 100, 200);
        for (int w : WILD) {
            Check.no("kind(" + w + ", 0, 0)", x.kind(w, 0, 0));
            Check.no("kind(0, " + w + ", 0)", x.kind(0, w, 0));
            Check.no("kind(0, 0, " + w + ")", x.kind(0, 0, w));
            Check.no("kind(0, w, w), w = " + w, x.kind(0, w, w));
        }
        Check.no("kind(4, 0, 0)", x.kind(4, 0, 0));
        Check.no("kind(0, 1001, 0)", x.kind(0, 1001, 0));
        Check.no("kind(0, 0, 1001)", x.kind(0, 0, 1001));
        Check.no("kind(0, 500, 501)", x.kind(0, 500, 501));
        Check.no("kind(0, 1001, -1)", x.kind(0, 1001, -1));
        Check.no("kind(0, -1, 1001)", x.kind(0, -1, 1001));
        x.bunker(0, 0, 10);
        x.grab(0);
        x.run(1);
        Check.bed("kind 0 as it was", x, 0, 1, 7, 2);
    }

    private static void sharesAreThoseOfTheMinute() {
        GrateLayers x = new GrateLayers(1);
        x.bunker(0, 0, 100);
        x.grab(0);
        x.kind(0, 250, 250);
        x.run(1);
        Check.bed("told after the grab", x, 0, 25, 50, 25);
        x.kind(0, 0, 1000);
        Check.bed("what lies there stays", x, 0, 25, 50, 25);
    }

    private static void sharesAreTakenOfAllThatWasGrabbed() {
        GrateLayers x = new GrateLayers(1);
        x.kind(0, 500, 0);
        x.crane(1);
        x.bunker(0, 0, 1);
        x.bunker(1, 0, 1);
        x.grab(0);
        x.grab(1);
        x.run(1);
        Check.bed("two grabs of 1", x, 0, 1, 1, 0);
    }

    private static void bunkersFill() {
        GrateLayers x = new GrateLayers(1);
        Check.yes("bunker(0, 0, 0)", x.bunker(0, 0, 0));
        Check.yes("bunker(0, 0, 40000)", x.bunker(0, 0, 40000));
        Check.yes("bunker(0, 3, 59999)", x.bunker(0, 3, 59999));
        Check.no("bunker(0, 1, 2)", x.bunker(0, 1, 2));
        Check.no("bunker(0, 1, 100000)", x.bunker(0, 1, 100000));
        Check.yes("bunker(0, 1, 1)", x.bunker(0, 1, 1));
        Check.no("bunker(0, 2, 1)", x.bunker(0, 2, 1));
        Check.yes("full: bunker(0, 2, 0)", x.bunker(0, 2, 0));
        Check.cell("full", x, 0, 40000, 1, 0, 59999);
        Check.yes("bunker(5, 3, 100000)", x.bunker(5, 3, 100000));
        Check.cell("full", x, 5, 0, 0, 0, 100000);
        Check.same("ash(0)", x.ash(0), 200000);
        x.grab(0);
        Check.yes("room again: bunker(0, 2, 1000)", x.bunker(0, 2, 1000));
        Check.no("full again: bunker(0, 2, 1)", x.bunker(0, 2, 1));
        Check.same("ash(0)", x.ash(0), 201000);
        Check.balanced("full", x);
    }

    private static void wrongBunkersAreRefused() {
        GrateLayers x = new GrateLayers(1);
        for (int w : WILD) {
            Check.no("bunker(" + w + ", 0, 1)", x.bunker(w, 0, 1));
            Check.no("bunker(0, " + w + ", 1)", x.bunker(0, w, 1));
            Check.no("bunker(0, 0, " + w + ")", x.bunker(0, 0, w));
        }
        Check.no("bunker(6, 0, 1)", x.bunker(6, 0, 1));
        Check.no("bunker(0, 4, 1)", x.bunker(0, 4, 1));
        Check.no("bunker(0, 0, 100001)", x.bunker(0, 0, 100001));
        Check.same("ash(0)", x.ash(0), 0);
        Check.cell("nothing came", x, 0, 0, 0, 0, 0);
    }

    private static void craneSetsTheGrab() {
        GrateLayers x = new GrateLayers(1);
        x.bunker(0, 0, 30000);
        Check.yes("crane(10000)", x.crane(10000));
        Check.same("grab(0)", x.grab(0), 10000);
        Check.no("crane(10001)", x.crane(10001));
        Check.same("grab(0)", x.grab(0), 10000);
        Check.yes("crane(1)", x.crane(1));
        Check.same("grab(0)", x.grab(0), 1);
        Check.no("crane(0)", x.crane(0));
        for (int w : WILD) {
            Check.no("crane(" + w + ")", x.crane(w));
        }
        Check.same("grab(0)", x.grab(0), 1);
        Check.cell("after grabs", x, 0, 9998, 0, 0, 0);
    }

    private static void grabsTakeExactShares() {
        Check.cell("3 of 1 1 1 1", grabbed(3, 1, 1, 1, 1), 0, 0, 0, 0, 1);
        Check.cell("2 of 0 5 1 5", grabbed(2, 0, 5, 1, 5), 0, 0, 4, 0, 5);
        Check.cell("2 of 2 1 1 0: the whole share's kind is first too",
            grabbed(2, 2, 1, 1, 0), 0, 0, 1, 1, 0);
        Check.cell("50 of 100 33 7 0", grabbed(50, 100, 33, 7, 0), 0, 64, 21, 5, 0);
        Check.cell("1 of 1 50000 0 49999", grabbed(1, 1, 50000, 0, 49999), 0, 0, 50000, 0, 49999);
        Check.cell("10000 of 99997 1 1 1", grabbed(10000, 99997, 1, 1, 1), 0, 89997, 1, 1, 1);
        Check.cell("10 of 1 2 3 4", grabbed(10, 1, 2, 3, 4), 0, 0, 0, 0, 0);
        Check.cell("11 of 1 2 3 4", grabbed(11, 1, 2, 3, 4), 0, 0, 0, 0, 0);
    }

    private static GrateLayers grabbed(int size, int k0, int k1, int k2, int k3) {
        GrateLayers x = new GrateLayers(1);
        int[] kilograms = {k0, k1, k2, k3};
        for (int kind = 0; kind < 4; kind++) {
            x.bunker(0, kind, kilograms[kind]);
        }
        x.crane(size);
        int due = Math.min(size, k0 + k1 + k2 + k3);
        Check.same(size + " of " + k0 + " " + k1 + " " + k2 + " " + k3, x.grab(0), due);
        Check.balanced("after a grab", x);
        return x;
    }

    private static void grabsComeInTheNextMinute() {
        GrateLayers x = new GrateLayers(2);
        x.set(0, 0);
        x.bunker(3, 0, 1500);
        Check.same("grab(3)", x.grab(3), 1000);
        Check.bed("before the minute", x, 0, 0, 0, 0);
        Check.same("grab(3)", x.grab(3), 500);
        Check.same("grab(3)", x.grab(3), 0);
        x.run(1);
        Check.bed("in the minute", x, 0, 0, 1500, 0);
        Check.bed("in the minute", x, 1, 0, 0, 0);
        x.run(3);
        Check.bed("once alone", x, 0, 0, 1500, 0);
    }

    private static void wrongGrabsAndShares() {
        GrateLayers x = new GrateLayers(1);
        x.bunker(5, 3, 8);
        Check.same("share(5, 3)", x.share(5, 3), 8);
        Check.same("share(5, 4)", x.share(5, 4), -1);
        Check.same("share(6, 3)", x.share(6, 3), -1);
        Check.same("grab(6)", x.grab(6), -1);
        for (int w : WILD) {
            Check.same("grab(" + w + ")", x.grab(w), -1);
            Check.same("share(" + w + ", 0)", x.share(w, 0), -1);
            Check.same("share(0, " + w + ")", x.share(0, w), -1);
        }
        Check.same("grab(5)", x.grab(5), 8);
        Check.same("share(5, 3)", x.share(5, 3), 0);
    }
}
