/** Promises 18 and 19: plans of grabs that mix. */
public final class PlanTest {
    private static final int[] WILD = {-1, Integer.MIN_VALUE, Integer.MAX_VALUE};

    public static void main(String[] args) {
        takesTheCellThatIsMixed();
        takesTheFirstOfEquals();
        mixesOneKindEach();
        passesOverEmptyCells();
        partsOfThousandGoDown();
        looksAtSharesAsTheyAre();
        keepsThePlanFoundLast();
        wrongPlans();
        Check.end();
    }

    private static void planned(String when, GrateLayers x, int... cells) {
        for (int k = 0; k < cells.length; k++) {
            Check.same(when + ": planned(" + k + ")", x.planned(k), cells[k]);
        }
        Check.same(when + ": planned(" + cells.length + ")", x.planned(cells.length), -1);
    }

    private static void takesTheCellThatIsMixed() {
        GrateLayers x = new GrateLayers(1);
        x.bunker(1, 0, 10);
        x.bunker(1, 1, 20);
        for (int kind = 0; kind < 4; kind++) {
            x.bunker(4, kind, 25);
        }
        Check.same("plan(1)", x.plan(1), 0);
        planned("plan(1)", x, 4);
        Check.same("plan(4)", x.plan(4), 0);
        planned("plan(4)", x, 4, 4, 4, 4);
    }

    private static void takesTheFirstOfEquals() {
        GrateLayers x = new GrateLayers(1);
        x.bunker(2, 1, 5);
        x.bunker(3, 1, 50);
        x.bunker(5, 0, 5);
        Check.same("plan(1)", x.plan(1), 1000);
        planned("plan(1)", x, 2);
        Check.same("plan(2)", x.plan(2), 1000);
        planned("plan(2)", x, 2, 5);
        Check.same("plan(3)", x.plan(3), 2000);
        planned("plan(3)", x, 2, 2, 5);
        Check.same("plan(4)", x.plan(4), 2000);
        planned("plan(4)", x, 2, 2, 5, 5);
    }

    private static void mixesOneKindEach() {
        GrateLayers x = new GrateLayers(1);
        int[] kindOf = {3, 3, 1, 0, 2, 1};
        for (int cell = 0; cell < 6; cell++) {
            x.bunker(cell, kindOf[cell], 100 + cell);
        }
        Check.same("plan(4)", x.plan(4), 0);
        planned("plan(4)", x, 0, 2, 3, 4);
        Check.same("plan(3)", x.plan(3), 1000);
        planned("plan(3)", x, 0, 2, 3);
    }

    private static void passesOverEmptyCells() {
        GrateLayers x = new GrateLayers(1);
        x.bunker(0, 0, 0);
        x.bunker(5, 2, 1);
        Check.same("plan(2)", x.plan(2), 2000);
        planned("plan(2)", x, 5, 5);
    }

    private static void partsOfThousandGoDown() {
        GrateLayers x = new GrateLayers(1);
        x.bunker(0, 0, 1);
        x.bunker(0, 1, 1);
        x.bunker(0, 2, 1);
        Check.same("three of 333: plan(1)", x.plan(1), 333);
        Check.same("each down, then added: plan(4)", x.plan(4), 1332);
        GrateLayers y = new GrateLayers(1);
        y.bunker(0, 0, 99999);
        y.bunker(0, 3, 1);
        Check.same("999 and 0: plan(1)", y.plan(1), 999);
    }

    private static void looksAtSharesAsTheyAre() {
        GrateLayers x = new GrateLayers(1);
        x.bunker(0, 0, 1);
        x.bunker(0, 1, 1);
        x.bunker(1, 2, 1);
        x.bunker(1, 3, 1);
        Check.same("plan(2)", x.plan(2), 0);
        planned("plan(2)", x, 0, 1);
        Check.same("a plan takes nothing: share(0, 0)", x.share(0, 0), 1);
        x.crane(1);
        x.grab(0);
        Check.same("plan(2)", x.plan(2), 1000);
        planned("after a grab", x, 0, 1);
        x.grab(0);
        Check.same("plan(2)", x.plan(2), 1000);
        planned("cell 0 is empty", x, 1, 1);
    }

    private static void keepsThePlanFoundLast() {
        GrateLayers x = new GrateLayers(1);
        Check.same("empty: plan(1)", x.plan(1), -1);
        planned("none found", x);
        x.bunker(3, 0, 9);
        Check.same("plan(3)", x.plan(3), 3000);
        Check.same("plan(5)", x.plan(5), -1);
        planned("refused", x, 3, 3, 3);
        x.bunker(1, 0, 9);
        x.run(1);
        planned("more came", x, 3, 3, 3);
        x.grab(1);
        x.grab(3);
        Check.same("empty again: plan(1)", x.plan(1), -1);
        planned("empty again", x, 3, 3, 3);
        x.bunker(2, 0, 9);
        Check.same("plan(1)", x.plan(1), 1000);
        planned("a shorter one", x, 2);
    }

    private static void wrongPlans() {
        GrateLayers x = new GrateLayers(1);
        x.bunker(0, 0, 1);
        Check.same("plan(0)", x.plan(0), -1);
        Check.same("plan(5)", x.plan(5), -1);
        for (int w : WILD) {
            Check.same("plan(" + w + ")", x.plan(w), -1);
        }
        planned("none found", x);
        x.plan(4);
        for (int w : WILD) {
            Check.same("planned(" + w + ")", x.planned(w), -1);
        }
        Check.same("planned(4)", x.planned(4), -1);
    }
}
