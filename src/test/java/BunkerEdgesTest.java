/**
 * The edges that the document names of kinds, cells, the crane and grabs (Terms, promises 2 to 6).
 * Above each test stands the sentence that it is for.
 */
public final class BunkerEdgesTest {
    private static final int MIN = Integer.MIN_VALUE;
    private static final int MAX = Integer.MAX_VALUE;

    public static void main(String[] args) {
        kindsAreZeroToThree();
        waterIsZeroToThousand();
        ashIsZeroToThousand();
        waterAndAshAreThousandTogetherAtMost();
        theRestIsFuel();
        allIsFuelAtFirst();
        cellsAreZeroToFive();
        kilogramsAreZeroToHundredThousand();
        aCellHasHundredThousandInAllAtMost();
        aGrabMakesRoom();
        theCraneTakesOneToTenThousand();
        theCraneTakesThousandAtFirst();
        aGrabTakesItsSizeOrAllThereIs();
        aGrabOfAnEmptyCellIsNothing();
        aGrabOfNoSuchCellIsNone();
        sharesOfAGrabGoDown();
        oneMoreOfEachKindByNumbers();
        oneMoreOfKindsThatHaveSomeAlone();
        noneMoreWhenTheGrabIsWhole();
        aCellIsGrabbedToItsLastKilogram();
        sharesOfNoSuchCellOrKindAreNone();
        Check.end();
    }

    /** "KINDS are 0 .. 3". */
    private static void kindsAreZeroToThree() {
        GrateLayers x = new GrateLayers(1);
        for (int kind = 0; kind <= 3; kind++) {
            Check.yes("kind(" + kind + ", 0, 1000)", x.kind(kind, 0, 1000));
            Check.yes("bunker(0, " + kind + ", 1)", x.bunker(0, kind, 1 + kind));
            Check.same("share(0, " + kind + ")", x.share(0, kind), 1 + kind);
        }
        x.grab(0);
        x.run(1);
        Check.bed("each kind is ash", x, 0, 0, 0, 10);
        for (int kind : new int[] {-1, 4, MIN, MAX}) {
            Check.no("kind(" + kind + ", 0, 0)", x.kind(kind, 0, 0));
            Check.no("bunker(0, " + kind + ", 1)", x.bunker(0, kind, 1));
            Check.no("bunker(0, " + kind + ", 0)", x.bunker(0, kind, 0));
            Check.same("share(0, " + kind + ")", x.share(0, kind), -1);
        }
    }

    /** What so many kilograms of a kind of such shares are on zone 0. */
    private static void lies(int kilograms, int water, int ash, int w, int f, int a) {
        GrateLayers x = new GrateLayers(1);
        String call = "kind(2, " + water + ", " + ash + ")";
        Check.yes(call, x.kind(2, water, ash));
        x.crane(10000);
        x.bunker(0, 2, kilograms);
        x.grab(0);
        x.run(1);
        Check.bed(kilograms + " after " + call, x, 0, w, f, a);
    }

    /** A kind of 300 and 200 keeps its shares when such ones are refused. */
    private static void sharesRefused(int water, int ash) {
        GrateLayers x = new GrateLayers(1);
        x.kind(2, 300, 200);
        String call = "kind(2, " + water + ", " + ash + ")";
        Check.no(call, x.kind(2, water, ash));
        x.bunker(0, 2, 10);
        x.grab(0);
        x.run(1);
        Check.bed("as it was after " + call, x, 0, 3, 5, 2);
    }

    /** "each with SHARES in thousandths of WATER". */
    private static void waterIsZeroToThousand() {
        lies(1000, 0, 0, 0, 1000, 0);
        lies(1000, 1, 0, 1, 999, 0);
        lies(1000, 999, 0, 999, 1, 0);
        lies(1000, 1000, 0, 1000, 0, 0);
        for (int water : new int[] {-1, 1001, MIN, MAX}) {
            sharesRefused(water, 0);
        }
    }

    /** "each with SHARES in thousandths of .. ASH". */
    private static void ashIsZeroToThousand() {
        lies(1000, 0, 1, 0, 999, 1);
        lies(1000, 0, 999, 0, 1, 999);
        lies(1000, 0, 1000, 0, 0, 1000);
        for (int ash : new int[] {-1, 1001, MIN, MAX}) {
            sharesRefused(0, ash);
        }
    }

    /** "together 1000 at most". */
    private static void waterAndAshAreThousandTogetherAtMost() {
        lies(1000, 999, 1, 999, 0, 1);
        lies(1000, 1, 999, 1, 0, 999);
        lies(1000, 500, 500, 500, 0, 500);
        lies(1000, 500, 499, 500, 1, 499);
        sharesRefused(1000, 1);
        sharesRefused(1, 1000);
        sharesRefused(501, 500);
        sharesRefused(500, 501);
        sharesRefused(1000, 1000);
        // Together these are 1000 at most, but one of them is no share; or they wrap around.
        sharesRefused(1001, -1);
        sharesRefused(-1, 1001);
        sharesRefused(1001, -1001);
        sharesRefused(MAX, MAX);
        sharesRefused(MIN, MIN);
        sharesRefused(MAX, 1);
        sharesRefused(1, MAX);
        sharesRefused(MAX, MIN);
        sharesRefused(MIN, MAX);
    }

    /** "the rest is FUEL", and the two go down: so what they lose is fuel. */
    private static void theRestIsFuel() {
        lies(1, 500, 500, 0, 1, 0);
        lies(1, 999, 1, 0, 1, 0);
        lies(2, 500, 500, 1, 0, 1);
        lies(1999, 500, 500, 999, 1, 999);
        lies(999, 1, 999, 0, 1, 998);
        lies(0, 500, 500, 0, 0, 0);
    }

    /** "(all fuel at first)". */
    private static void allIsFuelAtFirst() {
        GrateLayers x = new GrateLayers(1);
        for (int kind = 0; kind <= 3; kind++) {
            x.bunker(kind, kind, 1000);
            x.grab(kind);
        }
        x.run(1);
        Check.bed("kinds not told", x, 0, 0, 4000, 0);
    }

    /** "BUNKER CELLS are 0 .. 5". */
    private static void cellsAreZeroToFive() {
        GrateLayers x = new GrateLayers(1);
        for (int cell = 0; cell <= 5; cell++) {
            Check.yes("bunker(" + cell + ", 1, 7)", x.bunker(cell, 1, 7 + cell));
        }
        for (int cell : new int[] {-1, 6, MIN, MAX}) {
            Check.no("bunker(" + cell + ", 1, 7)", x.bunker(cell, 1, 7));
            Check.no("bunker(" + cell + ", 1, 0)", x.bunker(cell, 1, 0));
        }
        Check.same("ash(0)", x.ash(0), 7 + 8 + 9 + 10 + 11 + 12);
        for (int cell = 0; cell <= 5; cell++) {
            Check.cell("each its own", x, cell, 0, 7 + cell, 0, 0);
            Check.same("grab(" + cell + ")", x.grab(cell), 7 + cell);
        }
    }

    /** "So many kilograms, 0 .. 100000, more of a kind in a cell." */
    private static void kilogramsAreZeroToHundredThousand() {
        GrateLayers x = new GrateLayers(1);
        Check.yes("bunker(0, 1, 0)", x.bunker(0, 1, 0));
        Check.cell("0 more", x, 0, 0, 0, 0, 0);
        Check.yes("bunker(1, 1, 1)", x.bunker(1, 1, 1));
        Check.cell("1 more", x, 1, 0, 1, 0, 0);
        Check.yes("bunker(2, 1, 99999)", x.bunker(2, 1, 99999));
        Check.cell("99999 more", x, 2, 0, 99999, 0, 0);
        Check.yes("bunker(3, 1, 100000)", x.bunker(3, 1, 100000));
        Check.cell("100000 more", x, 3, 0, 100000, 0, 0);
        x.bunker(4, 1, 50);
        for (int kilograms : new int[] {-1, -50, -51, 100001, MIN, MAX}) {
            Check.no("bunker(4, 1, " + kilograms + ")", x.bunker(4, 1, kilograms));
            Check.no("bunker(5, 1, " + kilograms + ")", x.bunker(5, 1, kilograms));
        }
        Check.cell("refused", x, 4, 0, 50, 0, 0);
        Check.cell("refused", x, 5, 0, 0, 0, 0);
        Check.same("ash(0)", x.ash(0), 1 + 99999 + 100000 + 50);
    }

    /** "100000 in all at most"; "false when .. the cell had too much". */
    private static void aCellHasHundredThousandInAllAtMost() {
        for (int kind = 0; kind <= 3; kind++) {
            GrateLayers x = new GrateLayers(1);
            x.bunker(2, 0, 20000);
            x.bunker(2, 1, 20000);
            x.bunker(2, 2, 20000);
            x.bunker(2, 3, 20000);
            String more = "bunker(2, " + kind + ", ";
            Check.no(more + "20001)", x.bunker(2, kind, 20001));
            Check.no(more + "100000)", x.bunker(2, kind, 100000));
            Check.same("refused: ash(0)", x.ash(0), 80000);
            Check.yes(more + "19999)", x.bunker(2, kind, 19999));
            Check.no(more + "2)", x.bunker(2, kind, 2));
            Check.yes(more + "1)", x.bunker(2, kind, 1));
            Check.no(more + "1)", x.bunker(2, kind, 1));
            Check.yes("full: " + more + "0)", x.bunker(2, kind, 0));
            Check.same("full: share(2, " + kind + ")", x.share(2, kind), 40000);
            Check.same("full: ash(0)", x.ash(0), 100000);
            Check.yes("another cell: bunker(3, 0, 100000)", x.bunker(3, 0, 100000));
        }
    }

    /** "100000 in all at most": what was grabbed is in the cell no more. */
    private static void aGrabMakesRoom() {
        GrateLayers x = new GrateLayers(1);
        x.bunker(0, 0, 60000);
        x.bunker(0, 3, 40000);
        x.crane(10000);
        x.grab(0);
        Check.no("bunker(0, 1, 10001)", x.bunker(0, 1, 10001));
        Check.yes("bunker(0, 1, 10000)", x.bunker(0, 1, 10000));
        Check.no("bunker(0, 1, 1)", x.bunker(0, 1, 1));
        Check.cell("full again", x, 0, 54000, 10000, 0, 36000);
        Check.balanced("full again", x);
    }

    /** "A grab takes 1 .. 10000 kilograms from now on." */
    private static void theCraneTakesOneToTenThousand() {
        GrateLayers x = new GrateLayers(1);
        x.bunker(0, 0, 100000);
        for (int kilograms : new int[] {1, 2, 9999, 10000}) {
            Check.yes("crane(" + kilograms + ")", x.crane(kilograms));
            Check.same("grab(0)", x.grab(0), kilograms);
        }
        x.crane(77);
        for (int kilograms : new int[] {0, -1, 10001, MIN, MAX}) {
            Check.no("crane(" + kilograms + ")", x.crane(kilograms));
            Check.same("as it was: grab(0)", x.grab(0), 77);
        }
    }

    /** "a grab 1000 kilograms" of a new object. */
    private static void theCraneTakesThousandAtFirst() {
        GrateLayers x = new GrateLayers(1);
        x.bunker(0, 0, 1001);
        Check.same("grab(0)", x.grab(0), 1000);
        Check.same("grab(0)", x.grab(0), 1);
    }

    /** "A GRAB of a cell takes G kilograms, or all there is". */
    private static void aGrabTakesItsSizeOrAllThereIs() {
        int[] there = {1, 49, 50, 51, 100};
        int[] taken = {1, 49, 50, 50, 50};
        for (int t = 0; t < there.length; t++) {
            GrateLayers x = new GrateLayers(1);
            x.crane(50);
            x.bunker(5, 3, there[t]);
            Check.same("grab(5) of " + there[t], x.grab(5), taken[t]);
            Check.same("left: share(5, 3)", x.share(5, 3), there[t] - taken[t]);
            x.run(1);
            Check.same("came: bed(0, 1)", x.bed(0, 1), taken[t]);
        }
    }

    /** "or all there is", when there is nothing. */
    private static void aGrabOfAnEmptyCellIsNothing() {
        GrateLayers x = new GrateLayers(1);
        Check.same("new: grab(0)", x.grab(0), 0);
        x.bunker(1, 0, 0);
        Check.same("0 came: grab(1)", x.grab(1), 0);
        x.bunker(2, 0, 5);
        x.grab(2);
        Check.same("emptied: grab(2)", x.grab(2), 0);
        x.run(1);
        Check.bed("5 came alone", x, 0, 0, 5, 0);
        Check.balanced("empty", x);
    }

    /** "NONE when there is no such cell." */
    private static void aGrabOfNoSuchCellIsNone() {
        GrateLayers x = new GrateLayers(1);
        for (int cell = 0; cell <= 5; cell++) {
            x.bunker(cell, 0, 10);
        }
        for (int cell : new int[] {-1, 6, MIN, MAX}) {
            Check.same("grab(" + cell + ")", x.grab(cell), -1);
        }
        x.run(1);
        Check.bed("nothing came", x, 0, 0, 0, 0);
        for (int cell = 0; cell <= 5; cell++) {
            Check.cell("nothing was taken", x, cell, 10, 0, 0, 0);
        }
    }

    /** What is left of a cell's kinds after a grab of so many. */
    private static void left(int size, int[] there, int... due) {
        GrateLayers x = new GrateLayers(1);
        int all = 0;
        for (int kind = 0; kind < 4; kind++) {
            x.bunker(0, kind, there[kind]);
            all += there[kind];
        }
        x.crane(size);
        Check.same("grab(0) of " + size, x.grab(0), Math.min(size, all));
        Check.cell("after a grab of " + size, x, 0, due[0], due[1], due[2], due[3]);
        Check.balanced("after a grab of " + size, x);
    }

    private static int[] kinds(int... kilograms) {
        return kilograms;
    }

    /** "of each kind, by numbers, its kilograms times the grab over W, down". */
    private static void sharesOfAGrabGoDown() {
        // 3 and 6 exactly; 2.97 and 6.03, where the one that is missing goes to kind 1.
        left(9, kinds(0, 33, 66, 0), 0, 30, 60, 0);
        left(9, kinds(0, 33, 67, 0), 0, 30, 61, 0);
        // 9999.9 and 0.1: kind 1's share is 0, and kind 0 takes the one more.
        left(10000, kinds(99999, 1, 0, 0), 89999, 1, 0, 0);
        // 0.1 and 9999.9: here kind 0 is first again.
        left(10000, kinds(1, 99999, 0, 0), 0, 90000, 0, 0);
        left(10000, kinds(25000, 25000, 25000, 25000), 22500, 22500, 22500, 22500);
    }

    /** "then one more of each kind, by numbers, .. until the grab is whole". */
    private static void oneMoreOfEachKindByNumbers() {
        left(1, kinds(1, 1, 1, 1), 0, 1, 1, 1);
        left(2, kinds(1, 1, 1, 1), 0, 0, 1, 1);
        left(3, kinds(1, 1, 1, 1), 0, 0, 0, 1);
        left(4, kinds(1, 1, 1, 1), 0, 0, 0, 0);
        left(7, kinds(10, 10, 10, 10), 8, 8, 8, 9);
        // Kind 0 has its exact share, and is the first to give one more all the same.
        left(2, kinds(2, 1, 1, 0), 0, 1, 1, 0);
    }

    /** "one more of each kind .. that has still some". */
    private static void oneMoreOfKindsThatHaveSomeAlone() {
        left(1, kinds(0, 1, 1, 1), 0, 0, 1, 1);
        left(1, kinds(0, 0, 3, 1), 0, 0, 2, 1);
        left(1, kinds(0, 0, 0, 2), 0, 0, 0, 1);
        left(2, kinds(1, 0, 1, 1), 0, 0, 0, 1);
        left(2, kinds(0, 1, 0, 2), 0, 0, 0, 1);
    }

    /** "until the grab is whole": at once, when the shares are. */
    private static void noneMoreWhenTheGrabIsWhole() {
        left(2, kinds(2, 2, 0, 0), 1, 1, 0, 0);
        left(4, kinds(0, 3, 3, 6), 0, 2, 2, 4);
        left(12, kinds(0, 3, 3, 6), 0, 0, 0, 0);
        left(13, kinds(0, 3, 3, 6), 0, 0, 0, 0);
        left(5, kinds(0, 0, 0, 9), 0, 0, 0, 4);
    }

    /** Grabs of one kilogram take kinds by numbers, until nothing is left. */
    private static void aCellIsGrabbedToItsLastKilogram() {
        GrateLayers x = new GrateLayers(1);
        for (int kind = 0; kind < 4; kind++) {
            x.bunker(0, kind, 1);
        }
        x.crane(1);
        for (int kind = 0; kind < 4; kind++) {
            Check.same("grab(0)", x.grab(0), 1);
            for (int other = 0; other < 4; other++) {
                Check.same("share(0, " + other + ")", x.share(0, other), other <= kind ? 0 : 1);
            }
        }
        Check.same("grab(0)", x.grab(0), 0);
    }

    /** "Kilograms of a kind in a cell; NONE when there are none such." */
    private static void sharesOfNoSuchCellOrKindAreNone() {
        GrateLayers x = new GrateLayers(1);
        for (int cell = 0; cell <= 5; cell++) {
            for (int kind = 0; kind <= 3; kind++) {
                Check.same("empty: share(" + cell + ", " + kind + ")", x.share(cell, kind), 0);
                x.bunker(cell, kind, 10 * cell + kind);
            }
        }
        for (int cell = 0; cell <= 5; cell++) {
            Check.cell("each its own", x, cell, 10 * cell, 10 * cell + 1, 10 * cell + 2,
                10 * cell + 3);
        }
        for (int wrong : new int[] {-1, MIN, MAX}) {
            Check.same("share(" + wrong + ", 0)", x.share(wrong, 0), -1);
            Check.same("share(5, " + wrong + ")", x.share(5, wrong), -1);
            Check.same("share(" + wrong + ", " + wrong + ")", x.share(wrong, wrong), -1);
        }
        Check.same("share(6, 0)", x.share(6, 0), -1);
        Check.same("share(0, 4)", x.share(0, 4), -1);
        Check.same("share(6, 4)", x.share(6, 4), -1);
    }
}
