/**
 * The edges that the document names of looks (promises 12, 13, 16 and 17). Above each test stands
 * the sentence that it is for.
 */
public final class LooksEdgesTest {
    private static final int MIN = Integer.MIN_VALUE;
    private static final int MAX = Integer.MAX_VALUE;

    public static void main(String[] args) {
        bedsAreZeroToThree();
        bedsOfNoSuchZoneAreNone();
        gasesAreZeroToThree();
        gasesAreZeroBeforeTheFirstMinute();
        gasesAreOfTheLatestMinute();
        totalsAreZeroToNine();
        totalsAreZeroAtFirst();
        whatCameIntoBunkersIsWhatWasTaken();
        balancesAreZeroAndOne();
        balancesAreZeroInEachStep();
        balancesAreZeroWhenAllIsGone();
        looksChangeNothing();
        Check.end();
    }

    /** Two zones with all four of each; something dried, burnt, was lost, and is ash. */
    private static GrateLayers busy() {
        GrateLayers x = new GrateLayers(2);
        x.kind(0, 200, 300);
        x.bunker(0, 0, 1100);
        x.grab(0);
        x.set(500, 250);
        x.air(0, 60, 100);
        x.air(1, 12, 100);
        x.burner(1000000000, 1000);
        x.run(3);
        return x;
    }

    /** "0 water, 1 fuel, 2 ash; its air (3); NONE when there are none such". */
    private static void bedsAreZeroToThree() {
        GrateLayers x = new GrateLayers(2);
        x.kind(0, 200, 300);
        x.bunker(0, 0, 1000);
        x.grab(0);
        x.air(0, 5, 0);
        x.air(1, 4, 0);
        x.set(100, 0);
        x.run(2);
        Check.bed("zone 0", x, 0, 180, 450, 270);
        Check.same("bed(0, 3)", x.bed(0, 3), 5);
        Check.bed("zone 1", x, 1, 20, 50, 30);
        Check.same("bed(1, 3)", x.bed(1, 3), 4);
        for (int what : new int[] {-1, 4, 5, MIN, MAX}) {
            Check.same("bed(0, " + what + ")", x.bed(0, what), -1);
            Check.same("bed(1, " + what + ")", x.bed(1, what), -1);
        }
    }

    /** "NONE when there are none such": zones. */
    private static void bedsOfNoSuchZoneAreNone() {
        GrateLayers x = busy();
        for (int zone : new int[] {-1, 2, 3, 6, MIN, MAX}) {
            for (int what : new int[] {-1, 0, 1, 2, 3, 4}) {
                Check.same("bed(" + zone + ", " + what + ")", x.bed(zone, what), -1);
            }
        }
    }

    /** "0 steam, 1 oxygen, 2 what burnt, 3 what dried; -1 for another what". */
    private static void gasesAreZeroToThree() {
        GrateLayers x = new GrateLayers(1);
        x.kind(0, 200, 0);
        x.bunker(0, 0, 100);
        x.grab(0);
        x.set(0, 100);
        x.burner(1, 5000);
        x.run(1);
        x.air(0, 20, 1000);
        x.run(1);
        // 4500 heat dry 1, of 80 fuel 3 burn by the air; 2000 and 30000 heat, of which a tenth.
        Check.gas("each its own", x, 3200, 2, 3, 1);
        for (int what : new int[] {-1, 4, 5, MIN, MAX}) {
            Check.same("gas(" + what + ")", x.gas(what), -1);
        }
    }

    /** "Of the latest minute": of a new object there is none, and "All is empty". */
    private static void gasesAreZeroBeforeTheFirstMinute() {
        GrateLayers x = new GrateLayers(3);
        x.air(0, 500, 0);
        x.burner(1, 1000);
        x.bunker(0, 0, 10);
        x.grab(0);
        Check.gas("no minute yet", x, 0, 0, 0, 0);
        Check.same("refused: run(0)", x.run(0), -1);
        Check.gas("no minute yet", x, 0, 0, 0, 0);
    }

    /** "Of the latest minute": not of those before it. */
    private static void gasesAreOfTheLatestMinute() {
        GrateLayers x = new GrateLayers(1);
        x.kind(0, 500, 0);
        x.bunker(0, 0, 4);
        x.grab(0);
        x.set(0, 1000);
        x.air(0, 6, 0);
        x.run(1);
        Check.gas("one burnt", x, 10000, 0, 1, 0);
        x.air(0, 3, 1000);
        Check.gas("air was told", x, 10000, 0, 1, 0);
        x.run(1);
        Check.gas("nothing happened", x, 0, 3, 0, 0);
        x.set(0, 0);
        x.burner(1, 5000);
        x.run(1);
        x.run(1);
        Check.gas("one dried, and one more", x, 0, 3, 0, 2);
        x.run(1);
        Check.gas("nothing is left to dry", x, 0, 3, 0, 0);
        Check.same("refused: run(1001)", x.run(1001), -1);
        Check.gas("refused", x, 0, 3, 0, 0);
        x.air(0, 0, 0);
        x.run(1);
        Check.gas("no air", x, 0, 0, 0, 0);
    }

    /** "In all: 0 .. 9 ..; NONE for another what." */
    private static void totalsAreZeroToNine() {
        GrateLayers x = new GrateLayers(1);
        x.kind(0, 200, 100);
        x.bunker(0, 0, 1000);
        x.bunker(1, 2, 5);
        x.grab(0);
        x.air(0, 60, 100);
        x.burner(200000, 30000);
        x.run(2);
        long[] due = {1005, 18, 20, 89, 10, 200000, 60000, 140000, 45000, 75000};
        for (int what = 0; what <= 9; what++) {
            Check.same("ash(" + what + ")", x.ash(what), due[what]);
        }
        for (int what : new int[] {-1, 10, 11, MIN, MAX}) {
            Check.same("ash(" + what + ")", x.ash(what), -1);
        }
    }

    /** "All is empty" of a new object. */
    private static void totalsAreZeroAtFirst() {
        for (int zones = 1; zones <= 6; zones++) {
            GrateLayers x = new GrateLayers(zones);
            x.run(1);
            for (int what = 0; what <= 9; what++) {
                Check.same("nothing there: ash(" + what + ")", x.ash(what), 0);
            }
            Check.gas("nothing there", x, 0, 0, 0, 0);
            Check.balanced("nothing there", x);
        }
    }

    /** "0 what came into bunkers": what was refused did not, and what was grabbed did. */
    private static void whatCameIntoBunkersIsWhatWasTaken() {
        GrateLayers x = new GrateLayers(1);
        x.bunker(0, 0, 0);
        Check.same("0 came: ash(0)", x.ash(0), 0);
        x.bunker(0, 0, 100000);
        x.bunker(0, 1, 1);
        x.bunker(1, 1, 100001);
        x.bunker(1, 1, -1);
        x.bunker(6, 1, 5);
        x.bunker(1, 4, 5);
        Check.same("refused: ash(0)", x.ash(0), 100000);
        x.grab(0);
        Check.same("grabbed: ash(0)", x.ash(0), 100000);
        x.bunker(0, 1, 1000);
        Check.same("1000 more: ash(0)", x.ash(0), 101000);
    }

    /** "Of stuff (what = 0) ..; of heat (1) ..; NONE for another what." */
    private static void balancesAreZeroAndOne() {
        GrateLayers x = busy();
        Check.same("balance(0)", x.balance(0), 0);
        Check.same("balance(1)", x.balance(1), 0);
        for (int what : new int[] {-1, 2, 3, MIN, MAX}) {
            Check.same("balance(" + what + ")", x.balance(what), -1);
        }
    }

    /** "what is there, was grabbed for the next minute, lies on zones, dried, burnt, ..". */
    private static void balancesAreZeroInEachStep() {
        GrateLayers x = new GrateLayers(2);
        x.kind(0, 200, 300);
        x.bunker(5, 0, 1100);
        Check.balanced("all in a cell", x);
        x.crane(1100);
        x.grab(5);
        Check.balanced("all grabbed", x);
        x.set(500, 0);
        x.run(1);
        Check.balanced("all on zone 0", x);
        x.run(1);
        Check.balanced("on both zones", x);
        x.run(1);
        Check.balanced("some off the grate", x);
        x.burner(1000000000, 5000);
        x.run(1);
        Check.balanced("heat of the burner", x);
        x.air(0, 60, 1000);
        x.air(1, 60, 1000);
        x.run(1);
        Check.balanced("some dried and burnt", x);
        x.set(500, 333);
        x.run(1);
        Check.balanced("some steam", x);
        for (int what = 0; what <= 9; what++) {
            Check.yes("each has some: ash(" + what + ")", x.ash(what) > 0);
        }
    }

    /** The same, when nothing is left in cells, on zones and in the furnace. */
    private static void balancesAreZeroWhenAllIsGone() {
        GrateLayers x = busy();
        x.grab(0);
        x.set(1000, 1000);
        x.burner(0, 0);
        x.run(3);
        Check.bed("gone", x, 0, 0, 0, 0);
        Check.bed("gone", x, 1, 0, 0, 0);
        Check.cell("gone", x, 0, 0, 0, 0, 0);
        Check.same("gone: ash(9)", x.ash(9), 0);
        Check.same("gone: ash(1) to ash(4)", x.ash(1) + x.ash(2) + x.ash(3) + x.ash(4), 1100);
        Check.same("gone: heat", x.ash(5) + x.ash(6), x.ash(7) + x.ash(8));
        Check.balanced("gone", x);
    }

    /** A look answers the same when it is asked again. */
    private static void looksChangeNothing() {
        GrateLayers x = busy();
        GrateLayers y = busy();
        for (int what = -1; what <= 10; what++) {
            for (int zone = -1; zone <= 2; zone++) {
                x.bed(zone, what);
                x.share(zone, what);
            }
            x.gas(what);
            x.ash(what);
            x.balance(what);
            x.output(what);
            x.planned(what);
            x.burning();
        }
        x.run(1);
        y.run(1);
        for (int what = 0; what <= 9; what++) {
            Check.same("ash(" + what + ")", x.ash(what), y.ash(what));
            Check.same("gas(" + what + ")", x.gas(what), y.gas(what));
            Check.same("bed(0, " + what + ")", x.bed(0, what), y.bed(0, what));
            Check.same("bed(1, " + what + ")", x.bed(1, what), y.bed(1, what));
        }
    }
}
