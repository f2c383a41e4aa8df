/**
 * The edges that the document names of plans (promises 18 and 19). Above each test stands the
 * sentence that it is for.
 */
public final class PlanEdgesTest {
    private static final int MIN = Integer.MIN_VALUE;
    private static final int MAX = Integer.MAX_VALUE;

    public static void main(String[] args) {
        grabsAreOneToFour();
        cellsWithNothingAreNotPlanned();
        noPlanWhenNoCellHasAnything();
        aKilogramIsSomething();
        theSameCellAgain();
        allCellsMayBePlanned();
        sharesGoDownForEachCell();
        spreadIsTheGreatestSumLessTheLeast();
        theFirstByItsFirstCell();
        theFirstByItsSecondCell();
        theFirstByItsThirdCell();
        theFirstByItsFourthCell();
        aLaterPlanIsTakenWhenItsSpreadIsLess();
        aPlanTakesNothing();
        sharesAreAsTheyAre();
        plannedIsFromZeroOn();
        plannedOfANewObjectIsNone();
        thePlanFoundLastStaysWhenNoneIsFound();
        thePlanFoundLastStaysWhenCellsChange();
        aShorterPlanIsShorter();
        Check.end();
    }

    private static GrateLayers cells(int[]... kilograms) {
        GrateLayers x = new GrateLayers(1);
        for (int cell = 0; cell < kilograms.length; cell++) {
            for (int kind = 0; kind < kilograms[cell].length; kind++) {
                Check.yes("prepared", x.bunker(cell, kind, kilograms[cell][kind]));
            }
        }
        return x;
    }

    private static int[] of(int... kilograms) {
        return kilograms;
    }

    /** A plan's spread and its cells, and that there is no further one. */
    private static void planned(String when, GrateLayers x, int spread, int... due) {
        Check.same(when + ": plan(" + due.length + ")", x.plan(due.length), spread);
        kept(when, x, due);
    }

    private static void kept(String when, GrateLayers x, int... due) {
        for (int k = 0; k < due.length; k++) {
            Check.same(when + ": planned(" + k + ")", x.planned(k), due[k]);
        }
        for (int k = due.length; k <= 5; k++) {
            Check.same(when + ": planned(" + k + ")", x.planned(k), -1);
        }
    }

    /** "A plan of so many grabs, 1 .. 4"; "NONE when grabs are not such". */
    private static void grabsAreOneToFour() {
        GrateLayers x = cells(of(3));
        for (int grabs : new int[] {0, -1, 5, MIN, MAX}) {
            Check.same("plan(" + grabs + ")", x.plan(grabs), -1);
            kept("none found", x);
        }
        planned("one", x, 1000, 0);
        planned("two", x, 2000, 0, 0);
        planned("three", x, 3000, 0, 0, 0);
        planned("four", x, 4000, 0, 0, 0, 0);
    }

    /** "out of cells that have something". */
    private static void cellsWithNothingAreNotPlanned() {
        planned("cell 0 is empty", cells(of(), of(1)), 1000, 1);
        planned("0 came into cells 0 and 2", cells(of(0, 0), of(0, 1), of(0), of(1)), 1000, 1, 3);
        for (int cell = 0; cell <= 5; cell++) {
            GrateLayers x = new GrateLayers(1);
            x.bunker(cell, 2, 9);
            planned("one cell alone", x, 4000, cell, cell, cell, cell);
        }
        GrateLayers emptied = cells(of(5), of(7));
        emptied.grab(0);
        planned("cell 0 was emptied", emptied, 2000, 1, 1);
    }

    /** "NONE when .. no cell has anything". */
    private static void noPlanWhenNoCellHasAnything() {
        GrateLayers x = new GrateLayers(1);
        for (int grabs = 1; grabs <= 4; grabs++) {
            Check.same("new: plan(" + grabs + ")", x.plan(grabs), -1);
        }
        x.bunker(0, 0, 0);
        Check.same("0 came: plan(1)", x.plan(1), -1);
        x.bunker(5, 0, 1000);
        x.grab(5);
        for (int grabs = 1; grabs <= 4; grabs++) {
            Check.same("emptied: plan(" + grabs + ")", x.plan(grabs), -1);
        }
        kept("none found", x);
    }

    /** "cells that have something": one kilogram, and as much as a cell can have. */
    private static void aKilogramIsSomething() {
        planned("one kilogram", cells(of(), of(), of(0, 0, 1)), 4000, 2, 2, 2, 2);
        planned("a full cell", cells(of(), of(0, 100000)), 4000, 1, 1, 1, 1);
        planned("both", cells(of(1), of(0, 100000)), 1000, 0, 1);
    }

    /** "each any such cell (also the same again)". */
    private static void theSameCellAgain() {
        planned("mixed by itself", cells(of(1, 1), of(5, 5, 5, 5)), 0, 1, 1, 1, 1);
        planned("one twice", cells(of(1, 1, 0, 0), of(0, 0, 1), of(0, 0, 0, 1)), 0, 0, 0, 1, 2);
    }

    /** "each any such cell": of all six, in each place. */
    private static void allCellsMayBePlanned() {
        for (int mixed = 0; mixed <= 5; mixed++) {
            GrateLayers x = new GrateLayers(1);
            for (int cell = 0; cell <= 5; cell++) {
                for (int kind = 0; kind < (cell == mixed ? 4 : 1); kind++) {
                    x.bunker(cell, kind, 10);
                }
            }
            planned("cell " + mixed + " is mixed", x, 0, mixed);
            planned("cell " + mixed + " is mixed", x, 0, mixed, mixed, mixed, mixed);
        }
    }

    /** "(its kilograms times 1000 over the cell's, down)". */
    private static void sharesGoDownForEachCell() {
        planned("333 each", cells(of(1, 1, 1)), 333, 0);
        planned("4 times 333", cells(of(1, 1, 1)), 1332, 0, 0, 0, 0);
        planned("999 and 0", cells(of(99999, 1)), 999, 0);
        planned("999 and 1", cells(of(99900, 100)), 999, 0);
        planned("998 and 1", cells(of(99899, 101)), 998, 0);
        planned("142 and 857", cells(of(1, 6)), 857, 0);
        // 333, 333, 333 and 166, 166, 166, 500 are 499, 499, 499 and 500.
        planned("each down, then added", cells(of(1, 1, 1), of(1, 1, 1, 3)), 1, 0, 1);
    }

    /** "the spread is the greatest of these four sums less the least". */
    private static void spreadIsTheGreatestSumLessTheLeast() {
        planned("500, 300, 200 and none", cells(of(5, 3, 2)), 500, 0);
        for (int kind = 0; kind <= 3; kind++) {
            int[] most = {200, 200, 200, 200};
            most[kind] = 400;
            planned("the most of kind " + kind, cells(most), 200, 0);
            int[] least = {300, 300, 300, 300};
            least[kind] = 100;
            planned("the least of kind " + kind, cells(least), 200, 0);
        }
        planned("all the same", cells(of(7, 7, 7, 7)), 0, 0);
    }

    /** "Of plans of the same spread the first, by its first cell". */
    private static void theFirstByItsFirstCell() {
        planned("all alike", cells(of(1), of(1), of(1), of(1), of(1), of(1)), 1000, 0);
        planned("other kinds", cells(of(0, 0, 0, 4), of(3), of(0, 1)), 1000, 0);
        planned("cells 1 and 4 are best", cells(of(1), of(1, 1), of(1), of(2), of(0, 3, 3)),
            500, 1);
        planned("0 before 1", cells(of(1, 1, 0, 0), of(0, 0, 1, 1)), 0, 0, 1);
    }

    /** "then its second one". */
    private static void theFirstByItsSecondCell() {
        planned("1 before 2", cells(of(1), of(0, 1), of(0, 1), of(0, 0, 1)), 1000, 0, 1);
        planned("0 again", cells(of(1, 1, 1, 1), of(2, 2, 2, 2)), 0, 0, 0);
    }

    /** "and so on": the third. */
    private static void theFirstByItsThirdCell() {
        planned("2 before 3", cells(of(1), of(0, 1), of(0, 0, 1), of(0, 0, 5), of(0, 0, 0, 1)),
            1000, 0, 1, 2);
        planned("0 0 1 before 0 1 0", cells(of(1), of(0, 1)), 2000, 0, 0, 1);
    }

    /** "and so on": the fourth. */
    private static void theFirstByItsFourthCell() {
        planned("3 before 4", cells(of(1), of(0, 1), of(0, 0, 1), of(0, 0, 0, 1), of(0, 0, 0, 2)),
            0, 0, 1, 2, 3);
        planned("0 0 1 1 before the others", cells(of(1), of(0, 1)), 2000, 0, 0, 1, 1);
    }

    /** "the one of which the SPREAD is least": be it the last of all plans. */
    private static void aLaterPlanIsTakenWhenItsSpreadIsLess() {
        planned("one less", cells(of(400, 600), of(401, 599)), 599, 1);
        planned("the last cell", cells(of(1), of(1), of(1), of(1), of(1), of(2, 1)),
            2664, 5, 5, 5, 5);
    }

    /** A plan is no grab: the crane goes nowhere. */
    private static void aPlanTakesNothing() {
        GrateLayers x = cells(of(1, 2, 3, 4), of(5, 6, 7, 8));
        for (int grabs = 0; grabs <= 5; grabs++) {
            x.plan(grabs);
        }
        Check.cell("planned alone", x, 0, 1, 2, 3, 4);
        Check.cell("planned alone", x, 1, 5, 6, 7, 8);
        x.run(1);
        Check.bed("planned alone", x, 0, 0, 0, 0);
        Check.balanced("planned alone", x);
    }

    /** "by shares as they are": as if a planned grab left its cell as it is, and by none before. */
    private static void sharesAreAsTheyAre() {
        GrateLayers x = cells(of(1, 1), of(0, 0, 1, 1));
        planned("of one grab each there would be nothing left", x, 0, 0, 0, 1, 1);
        x.crane(1);
        x.grab(0);
        planned("kind 1 is left in cell 0", x, 1500, 0, 1, 1, 1);
        x.bunker(0, 0, 3);
        planned("750 and 250", x, 500, 0, 1);
        x.kind(0, 1000, 0);
        planned("a kind's own shares do not count", x, 500, 0, 1);
    }

    /** "The cell of the k-th grab of the plan found last; NONE when there is none such." */
    private static void plannedIsFromZeroOn() {
        GrateLayers x = cells(of(1), of(0, 1), of(0, 0, 1), of(0, 0, 0, 1));
        for (int grabs = 1; grabs <= 4; grabs++) {
            x.plan(grabs);
            for (int k = 0; k < grabs; k++) {
                Check.same("plan(" + grabs + "): planned(" + k + ")", x.planned(k), k);
            }
            for (int k : new int[] {-1, grabs, 4, 5, MIN, MAX}) {
                Check.same("plan(" + grabs + "): planned(" + k + ")", x.planned(k), -1);
            }
        }
    }

    /** "NONE when there is none such": no plan was found yet. */
    private static void plannedOfANewObjectIsNone() {
        GrateLayers x = new GrateLayers(6);
        for (int k : new int[] {-1, 0, 1, 3, 4, MIN, MAX}) {
            Check.same("new: planned(" + k + ")", x.planned(k), -1);
        }
        x.bunker(0, 0, 5);
        Check.same("never asked: planned(0)", x.planned(0), -1);
    }

    /** "the plan found last": what finds none leaves it. */
    private static void thePlanFoundLastStaysWhenNoneIsFound() {
        GrateLayers x = cells(of(), of(2), of(0, 2));
        planned("found", x, 1000, 1, 2);
        for (int grabs : new int[] {0, -1, 5, MIN, MAX}) {
            Check.same("plan(" + grabs + ")", x.plan(grabs), -1);
            kept("refused", x, 1, 2);
        }
        x.grab(1);
        x.grab(2);
        for (int grabs = 1; grabs <= 4; grabs++) {
            Check.same("no cell has anything: plan(" + grabs + ")", x.plan(grabs), -1);
            kept("no cell has anything", x, 1, 2);
        }
    }

    /** "the plan found last": cells and minutes leave it too. */
    private static void thePlanFoundLastStaysWhenCellsChange() {
        GrateLayers x = cells(of(), of(2), of(0, 2));
        planned("found", x, 1000, 1, 2);
        x.bunker(0, 0, 5);
        x.grab(1);
        x.run(10);
        kept("found before", x, 1, 2);
    }

    /** "the plan found last": of one that is shorter nothing of the longer one is left. */
    private static void aShorterPlanIsShorter() {
        GrateLayers x = cells(of(1), of(0, 1), of(0, 0, 1), of(0, 0, 0, 1));
        planned("four", x, 0, 0, 1, 2, 3);
        planned("one", x, 1000, 0);
        planned("three", x, 1000, 0, 1, 2);
    }
}
