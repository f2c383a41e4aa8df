import java.math.BigInteger;
import java.util.Random;

/**
 * Random runs of calls, the same each time, against a second reading of the document that is
 * written as near to its words as can be. The class and the reading share no code.
 */
public final class ModelTest {
    private static final int RUNS = 1500;
    private static final int CALLS = 500;

    public static void main(String[] args) {
        for (int seed = 0; seed < RUNS; seed++) {
            Random random = new Random(seed);
            int zones = random.nextInt(9) - 1;
            GrateLayers x = new GrateLayers(zones);
            Reading reading = new Reading(zones);
            for (int c = 0; c < CALLS; c++) {
                oneCall("seed " + seed + ", call " + c, x, reading, random);
            }
        }
        Check.end();
    }

    /** Mostly a number within the bounds, often one of them, now and then one beside them. */
    private static int pick(Random random, int least, int most) {
        int how = random.nextInt(40);
        if (how == 0) {
            return least - 1 - random.nextInt(3);
        }
        if (how == 1) {
            return most + 1 + random.nextInt(3);
        }
        if (how < 5) {
            return least;
        }
        if (how < 8) {
            return most;
        }
        int width = most - least + 1;
        return least + (how < 20 ? random.nextInt(Math.min(width, 1000)) : random.nextInt(width));
    }

    private static long bit(boolean b) {
        return b ? 1 : 0;
    }

    private static void oneCall(String when, GrateLayers x, Reading r, Random random) {
        int which = random.nextInt(27);
        int a;
        int b;
        int c;
        int d;
        switch (which) {
            case 0:
                a = pick(random, 0, 3);
                b = pick(random, 0, 1000);
                c = pick(random, 0, Math.max(1, 1000 - b));
                Check.same(when + ": kind", bit(x.kind(a, b, c)), bit(r.kind(a, b, c)));
                break;
            case 1: case 2:
                a = pick(random, 0, 5);
                b = pick(random, 0, 3);
                c = pick(random, 0, random.nextInt(3) == 0 ? 100000 : 3000);
                Check.same(when + ": bunker", bit(x.bunker(a, b, c)), bit(r.bunker(a, b, c)));
                break;
            case 3:
                a = pick(random, 1, 10000);
                Check.same(when + ": crane", bit(x.crane(a)), bit(r.crane(a)));
                break;
            case 4: case 5: case 6:
                a = pick(random, 0, 5);
                Check.same(when + ": grab", x.grab(a), r.grab(a));
                break;
            case 7: case 8:
                a = pick(random, 0, 5);
                b = pick(random, 0, 3);
                Check.same(when + ": share", x.share(a, b), r.share(a, b));
                break;
            case 9: case 10:
                a = pick(random, 0, 5);
                b = pick(random, 0, 100000);
                c = pick(random, 0, 1000);
                Check.same(when + ": air", bit(x.air(a, b, c)), bit(r.air(a, b, c)));
                break;
            case 11:
                a = pick(random, 0, 1000);
                b = pick(random, 0, 1000);
                Check.same(when + ": set", bit(x.set(a, b)), bit(r.set(a, b)));
                break;
            case 12:
                a = pick(random, 0, 1);
                b = pick(random, 0, random.nextBoolean() ? 1000000000 : 100000);
                c = pick(random, -1000, 1000);
                d = pick(random, -1000, 1000);
                Check.same(when + ": control", bit(x.control(a, b, c, d)), bit(r.control(a, b, c, d)));
                break;
            case 13:
                a = pick(random, 0, random.nextBoolean() ? 1000000000 : 100000);
                b = pick(random, 0, 1000000);
                Check.same(when + ": burner", bit(x.burner(a, b)), bit(r.burner(a, b)));
                break;
            case 14: case 15: case 16:
                a = pick(random, 1, random.nextInt(10) == 0 ? 1000 : 5);
                Check.same(when + ": run", x.run(a), r.run(a));
                break;
            default:
                oneLook(when, x, r, random, which);
        }
    }

    private static void oneLook(String when, GrateLayers x, Reading r, Random random, int which) {
        int a;
        switch (which) {
            case 17: case 18: case 19:
                a = pick(random, 0, 5);
                int b = pick(random, 0, 3);
                Check.same(when + ": bed " + a + " " + b, x.bed(a, b), r.bed(a, b));
                break;
            case 20:
                a = pick(random, 0, 3);
                Check.same(when + ": gas " + a, x.gas(a), r.gas(a));
                break;
            case 21:
                a = pick(random, 0, 1);
                Check.same(when + ": output " + a, x.output(a), r.output(a));
                break;
            case 22:
                Check.same(when + ": burning", bit(x.burning()), bit(r.burning));
                break;
            case 23:
                a = pick(random, 0, 9);
                Check.same(when + ": ash " + a, x.ash(a), r.ash(a));
                break;
            case 24:
                a = pick(random, 0, 1);
                Check.same(when + ": balance " + a, x.balance(a), a == 0 || a == 1 ? 0 : -1);
                break;
            case 25:
                a = pick(random, 1, 4);
                Check.same(when + ": plan " + a, x.plan(a), r.plan(a));
                break;
            default:
                a = pick(random, 0, 3);
                Check.same(when + ": planned " + a, x.planned(a), r.planned(a));
        }
    }

    /** The document, read a second time. */
    private static final class Reading {
        private final int[][] shares = new int[4][2];
        private final int[][] cells = new int[6][4];
        private final int[] hanging = new int[4];
        private final long[][] lies;
        private final int[] airs;
        private final int[] dryings;
        private int grabSize = 1000;
        private int move = 100;
        private int boiler = 500;
        private final int[][] told = new int[2][];
        private final long[] sums = new long[2];
        private final int[] outputs = new int[2];
        private int[] burner = null;
        private boolean burning = false;
        private int minute = 0;
        private final long[] gases = new long[4];
        private final long[] totals = new long[10];
        private int[] plan = new int[0];

        Reading(int zones) {
            int z = zones < 1 || zones > 6 ? 1 : zones;
            lies = new long[z][3];
            airs = new int[z];
            dryings = new int[z];
            for (int i = 0; i < z; i++) {
                dryings[i] = 200;
            }
        }

        private static boolean not(int n, int least, int most) {
            return n < least || n > most;
        }

        /** n times x over d, down. */
        private static long part(long n, long x, long d) {
            BigInteger[] q = BigInteger.valueOf(n).multiply(BigInteger.valueOf(x))
                .divideAndRemainder(BigInteger.valueOf(d));
            return (q[1].signum() < 0 ? q[0].subtract(BigInteger.ONE) : q[0]).longValueExact();
        }

        boolean kind(int kind, int water, int ash) {
            if (not(kind, 0, 3) || water < 0 || ash < 0 || (long) water + ash > 1000) {
                return false;
            }
            shares[kind] = new int[] {water, ash};
            return true;
        }

        private int inCell(int cell) {
            return cells[cell][0] + cells[cell][1] + cells[cell][2] + cells[cell][3];
        }

        boolean bunker(int cell, int kind, int kilograms) {
            if (not(cell, 0, 5) || not(kind, 0, 3) || not(kilograms, 0, 100000)
                || inCell(cell) + kilograms > 100000) {
                return false;
            }
            cells[cell][kind] += kilograms;
            totals[0] += kilograms;
            return true;
        }

        boolean crane(int kilograms) {
            if (not(kilograms, 1, 10000)) {
                return false;
            }
            grabSize = kilograms;
            return true;
        }

        int grab(int cell) {
            if (not(cell, 0, 5)) {
                return -1;
            }
            int w = inCell(cell);
            int grab = Math.min(grabSize, w);
            int[] takes = new int[4];
            int whole = 0;
            for (int kind = 0; kind < 4 && w > 0; kind++) {
                takes[kind] = (int) part(cells[cell][kind], grab, w);
                whole += takes[kind];
            }
            while (whole < grab) {
                for (int kind = 0; kind < 4; kind++) {
                    if (whole < grab && cells[cell][kind] > takes[kind]) {
                        takes[kind]++;
                        whole++;
                    }
                }
            }
            for (int kind = 0; kind < 4; kind++) {
                cells[cell][kind] -= takes[kind];
                hanging[kind] += takes[kind];
            }
            return grab;
        }

        int share(int cell, int kind) {
            return not(cell, 0, 5) || not(kind, 0, 3) ? -1 : cells[cell][kind];
        }

        boolean air(int zone, int v, int drying) {
            if (not(zone, 0, lies.length - 1) || not(v, 0, 100000) || not(drying, 0, 1000)) {
                return false;
            }
            airs[zone] = v;
            dryings[zone] = drying;
            return true;
        }

        boolean set(int newMove, int newBoiler) {
            if (not(newMove, 0, 1000) || not(newBoiler, 0, 1000)) {
                return false;
            }
            move = newMove;
            boiler = newBoiler;
            return true;
        }

        boolean control(int k, int target, int p, int i) {
            if (not(k, 0, 1) || not(target, 0, 1000000000) || not(p, -1000, 1000)
                || not(i, -1000, 1000)) {
                return false;
            }
            told[k] = new int[] {target, p, i};
            sums[k] = 0;
            outputs[k] = 0;
            return true;
        }

        boolean burner(int below, int heat) {
            if (not(below, 0, 1000000000) || not(heat, 0, 1000000)) {
                return false;
            }
            burner = new int[] {below, heat};
            return true;
        }

        int run(int minutes) {
            if (not(minutes, 1, 1000) || minute + minutes > 20000) {
                return -1;
            }
            for (int end = minute + minutes; minute < end; minute++) {
                stepOne();
                stepTwo();
                stepThree();
                stepFour();
                stepFive(0, gases[0]);
                stepFive(1, gases[1]);
            }
            return minute;
        }

        private void stepOne() {
            int last = lies.length - 1;
            for (int what = 0; what < 3; what++) {
                for (int zone = last; zone >= 0; zone--) {
                    long goes = part(lies[zone][what], move, 1000);
                    lies[zone][what] -= goes;
                    if (zone < last) {
                        lies[zone + 1][what] += goes;
                    } else {
                        totals[what == 2 ? 4 : 3] += goes;
                    }
                }
            }
        }

        private void stepTwo() {
            for (int kind = 0; kind < 4; kind++) {
                long water = part(hanging[kind], shares[kind][0], 1000);
                long ash = part(hanging[kind], shares[kind][1], 1000);
                lies[0][0] += water;
                lies[0][1] += hanging[kind] - (water + ash);
                lies[0][2] += ash;
                hanging[kind] = 0;
            }
        }

        private void stepThree() {
            gases[1] = 0;
            gases[2] = 0;
            gases[3] = 0;
            for (int zone = 0; zone < lies.length; zone++) {
                long[] l = lies[zone];
                long dries = Math.min(part(l[0], dryings[zone], 1000), part(totals[9], 1, 2500));
                l[0] -= dries;
                gases[3] += dries;
                totals[1] += dries;
                totals[8] += 2500 * dries;
                totals[9] -= 2500 * dries;
                long burns = 0;
                if (l[0] <= l[1]) {
                    burns = Math.min(Math.min(l[1], part(airs[zone], 1, 6)),
                        part(l[1], 50, 1000) + 1);
                }
                l[1] -= burns;
                gases[2] += burns;
                totals[2] += burns;
                totals[5] += 10000 * burns;
                totals[9] += 10000 * burns;
                gases[1] += airs[zone] - 6 * burns;
            }
        }

        private void stepFour() {
            burning = false;
            if (burner != null && totals[9] < burner[0]) {
                burning = true;
                totals[6] += burner[1];
                totals[9] += burner[1];
            }
            gases[0] = part(totals[9], boiler, 1000);
            totals[7] += gases[0];
            totals[9] -= gases[0];
        }

        private void stepFive(int k, long looksAt) {
            if (told[k] == null) {
                return;
            }
            long e = told[k][0] - looksAt;
            sums[k] += e;
            if (sums[k] > 1000000000) {
                sums[k] = 1000000000;
            } else if (sums[k] < -1000000000) {
                sums[k] = -1000000000;
            }
            long out = part(told[k][1] * e + told[k][2] * sums[k], 1, 1000);
            outputs[k] = out < 0 ? 0 : out > 100000 ? 100000 : (int) out;
            if (k == 1) {
                move = outputs[k] > 1000 ? 1000 : outputs[k];
            } else {
                for (int zone = 0; zone < airs.length; zone++) {
                    airs[zone] = outputs[k];
                }
            }
        }

        long bed(int zone, int what) {
            if (not(zone, 0, lies.length - 1) || not(what, 0, 3)) {
                return -1;
            }
            return what == 3 ? airs[zone] : lies[zone][what];
        }

        long gas(int what) {
            return not(what, 0, 3) ? -1 : gases[what];
        }

        int output(int k) {
            return not(k, 0, 1) || told[k] == null ? -1 : outputs[k];
        }

        long ash(int what) {
            return not(what, 0, 9) ? -1 : totals[what];
        }

        int plan(int grabs) {
            if (not(grabs, 1, 4)) {
                return -1;
            }
            return better(new int[grabs], 0, -1);
        }

        private int better(int[] tried, int at, int least) {
            if (at == tried.length) {
                int spread = spread(tried);
                if (least == -1 || spread < least) {
                    plan = tried.clone();
                    return spread;
                }
                return least;
            }
            int best = least;
            for (int cell = 0; cell < 6; cell++) {
                if (inCell(cell) > 0) {
                    tried[at] = cell;
                    best = better(tried, at + 1, best);
                }
            }
            return best;
        }

        private int spread(int[] tried) {
            long greatest = Long.MIN_VALUE;
            long least = Long.MAX_VALUE;
            for (int kind = 0; kind < 4; kind++) {
                long sum = 0;
                for (int cell : tried) {
                    sum += 1000L * cells[cell][kind] / inCell(cell);
                }
                greatest = Math.max(greatest, sum);
                least = Math.min(least, sum);
            }
            return (int) (greatest - least);
        }

        int planned(int k) {
            return not(k, 0, plan.length - 1) ? -1 : plan[k];
        }
    }
}
