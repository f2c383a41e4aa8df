/** Counts and prints the answers that are not as due; shared by the project's tests. */
final class Check {
    private static int wrong = 0;

    private Check() {
    }

    static void same(String call, long got, long due) {
        if (got != due) {
            wrong++;
            System.out.println(call + " answered " + got + ", due is " + due);
        }
    }

    static void yes(String call, boolean got) {
        same(call, got ? 1 : 0, 1);
    }

    static void no(String call, boolean got) {
        same(call, got ? 1 : 0, 0);
    }

    /** A zone's water, fuel and ash. */
    static void bed(String when, GrateLayers x, int zone, long water, long fuel, long ash) {
        same(when + ": bed(" + zone + ", 0)", x.bed(zone, 0), water);
        same(when + ": bed(" + zone + ", 1)", x.bed(zone, 1), fuel);
        same(when + ": bed(" + zone + ", 2)", x.bed(zone, 2), ash);
    }

    /** Steam, oxygen, what burnt and what dried in the latest minute. */
    static void gas(String when, GrateLayers x, long steam, long oxygen, long burnt, long dried) {
        same(when + ": gas(0)", x.gas(0), steam);
        same(when + ": gas(1)", x.gas(1), oxygen);
        same(when + ": gas(2)", x.gas(2), burnt);
        same(when + ": gas(3)", x.gas(3), dried);
    }

    /** A cell's kilograms of the four kinds. */
    static void cell(String when, GrateLayers x, int cell, int k0, int k1, int k2, int k3) {
        int[] due = {k0, k1, k2, k3};
        for (int kind = 0; kind < 4; kind++) {
            same(when + ": share(" + cell + ", " + kind + ")", x.share(cell, kind), due[kind]);
        }
    }

    static void balanced(String when, GrateLayers x) {
        same(when + ": balance(0)", x.balance(0), 0);
        same(when + ": balance(1)", x.balance(1), 0);
    }

    /** Ends the test, with exit code 1 if an answer was not as due. */
    static void end() {
        if (wrong != 0) {
            System.out.println(wrong + " answers are not as due");
            System.exit(1);
        }
    }
}
