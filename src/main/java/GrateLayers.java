/**
 * A furnace with a grate, minute by minute in whole units. The numbered promises that the comments
 * name are those of the project's document.
 */
public final class GrateLayers {
    public static final int NONE = -1;

    private static final int KINDS = 4;
    private static final int CELLS = 6;
    private static final int MOST_ZONES = 6;
    private static final int CONTROLLERS = 2;
    private static final int OF_STEAM = 0;
    private static final int OF_OXYGEN = 1;
    private static final int WHOLE = 1000;
    private static final int MOST_IN_CELL = 100000;
    private static final int MOST_IN_GRAB = 10000;
    private static final int MOST_AIR = 100000;
    private static final int MOST_OUTPUT = 100000;
    private static final int MOST_TARGET = 1000000000;
    private static final int MOST_SUM = 1000000000;
    private static final int MOST_GAIN = 1000;
    private static final int MOST_BELOW = 1000000000;
    private static final int MOST_BURNER_HEAT = 1000000;
    private static final int MOST_MINUTES_A_RUN = 1000;
    private static final int MOST_MINUTES = 20000;
    private static final int MOST_GRABS = 4;
    private static final int DRYING_HEAT = 2500;
    private static final int BURNING_HEAT = 10000;
    private static final int AIR_FOR_ONE = 6;
    private static final int BURNING_SHARE = 50;

    private final Kind[] kinds = new Kind[KINDS];
    private final Cell[] cells = new Cell[CELLS];
    private final Grate grate;
    private final Furnace furnace = new Furnace();
    private final Controller[] controllers = new Controller[CONTROLLERS];
    private final Mixer mixer = new Mixer();
    private int grabSize = 1000;
    private int nextMinute = 0;
    private long bunkered = 0;

    public GrateLayers(int zones) {
        grate = new Grate(zones);
        for (int k = 0; k < KINDS; k++) {
            kinds[k] = new Kind();
        }
        for (int c = 0; c < CELLS; c++) {
            cells[c] = new Cell();
        }
        for (int k = 0; k < CONTROLLERS; k++) {
            controllers[k] = new Controller();
        }
    }

    public boolean kind(int kind, int water, int ash) {
        if (!isKind(kind) || !within(water, 0, WHOLE) || !within(ash, 0, WHOLE - water)) {
            return false;
        }
        kinds[kind].water = water;
        kinds[kind].ash = ash;
        return true;
    }

    public boolean bunker(int cell, int kind, int kilograms) {
        if (!isCell(cell) || !isKind(kind) || !within(kilograms, 0, MOST_IN_CELL)) {
            return false;
        }
        if (cells[cell].total() + kilograms > MOST_IN_CELL) {
            return false;
        }
        cells[cell].kilograms[kind] += kilograms;
        bunkered += kilograms;
        return true;
    }

    public boolean crane(int kilograms) {
        if (!within(kilograms, 1, MOST_IN_GRAB)) {
            return false;
        }
        grabSize = kilograms;
        return true;
    }

    public int grab(int cell) {
        return isCell(cell) ? cells[cell].giveTo(kinds, grabSize) : NONE;
    }

    public int share(int cell, int kind) {
        return isCell(cell) && isKind(kind) ? cells[cell].kilograms[kind] : NONE;
    }

    public boolean air(int zone, int v, int drying) {
        if (!grate.hasZone(zone) || !within(v, 0, MOST_AIR) || !within(drying, 0, WHOLE)) {
            return false;
        }
        grate.zones[zone].air = v;
        grate.zones[zone].drying = drying;
        return true;
    }

    public boolean set(int move, int boiler) {
        if (!within(move, 0, WHOLE) || !within(boiler, 0, WHOLE)) {
            return false;
        }
        grate.move = move;
        furnace.boiler = boiler;
        return true;
    }

    public boolean control(int k, int target, int p, int i) {
        if (!isController(k) || !within(target, 0, MOST_TARGET)) {
            return false;
        }
        if (!within(p, -MOST_GAIN, MOST_GAIN) || !within(i, -MOST_GAIN, MOST_GAIN)) {
            return false;
        }
        controllers[k].tell(target, p, i);
        return true;
    }

    public boolean burner(int below, int heat) {
        if (!within(below, 0, MOST_BELOW) || !within(heat, 0, MOST_BURNER_HEAT)) {
            return false;
        }
        furnace.tellBurner(below, heat);
        return true;
    }

    public int run(int minutes) {
        if (!within(minutes, 1, MOST_MINUTES_A_RUN) || nextMinute + minutes > MOST_MINUTES) {
            return NONE;
        }
        for (int m = 0; m < minutes; m++) {
            passMinute();
        }
        nextMinute += minutes;
        return nextMinute;
    }

    public long bed(int zone, int what) {
        if (!grate.hasZone(zone)) {
            return NONE;
        }
        Zone asked = grate.zones[zone];
        switch (what) {
            case 0: return asked.water;
            case 1: return asked.fuel;
            case 2: return asked.ash;
            case 3: return asked.air;
            default: return NONE;
        }
    }

    public long gas(int what) {
        switch (what) {
            case 0: return furnace.steam;
            case 1: return grate.oxygen;
            case 2: return grate.burnt;
            case 3: return grate.dried;
            default: return NONE;
        }
    }

    public int output(int k) {
        return isController(k) && controllers[k].told ? controllers[k].output : NONE;
    }

    public boolean burning() {
        return furnace.burnerBurnt;
    }

    public long ash(int what) {
        switch (what) {
            case 0: return bunkered;
            case 1: return grate.driedInAll;
            case 2: return grate.burntInAll;
            case 3: return grate.lostInAll;
            case 4: return grate.ashInAll;
            case 5: return furnace.fuelHeatInAll;
            case 6: return furnace.burnerHeatInAll;
            case 7: return furnace.steamInAll;
            case 8: return furnace.dryingHeatInAll;
            case 9: return furnace.heat;
            default: return NONE;
        }
    }

    public long balance(int what) {
        switch (what) {
            case 0: return bunkered - inCells() - grabbed() - grate.lying() - grate.gone();
            case 1: return furnace.imbalance();
            default: return NONE;
        }
    }

    public int plan(int grabs) {
        if (!within(grabs, 1, MOST_GRABS)) {
            return NONE;
        }
        mixer.look(cells);
        return mixer.leastSpread(grabs);
    }

    public int planned(int k) {
        return k >= 0 && k < mixer.foundGrabs ? mixer.found[k] : NONE;
    }

    private static boolean within(int n, int least, int most) {
        return n >= least && n <= most;
    }

    private static boolean isKind(int kind) {
        return within(kind, 0, KINDS - 1);
    }

    private static boolean isCell(int cell) {
        return within(cell, 0, CELLS - 1);
    }

    private static boolean isController(int k) {
        return within(k, 0, CONTROLLERS - 1);
    }

    private static long thousandths(long n, int x) {
        return n * x / WHOLE;
    }

    private static long cut(long n, long least, long most) {
        return Math.max(least, Math.min(most, n));
    }

    private void passMinute() {
        grate.moveOn();
        feedGrate();
        grate.dryAndBurn(furnace);
        furnace.fireBurner();
        furnace.makeSteam();
        obeyControllers();
    }

    private void feedGrate() {
        for (Kind kind : kinds) {
            long water = thousandths(kind.grabbed, kind.water);
            long ash = thousandths(kind.grabbed, kind.ash);
            grate.zones[0].add(water, kind.grabbed - water - ash, ash);
            kind.grabbed = 0;
        }
    }

    private void obeyControllers() {
        Controller ofSteam = controllers[OF_STEAM];
        if (ofSteam.told) {
            ofSteam.look(furnace.steam);
            grate.blow(ofSteam.output);
        }
        Controller ofOxygen = controllers[OF_OXYGEN];
        if (ofOxygen.told) {
            ofOxygen.look(grate.oxygen);
            grate.move = Math.min(ofOxygen.output, WHOLE);
        }
    }

    private long inCells() {
        long sum = 0;
        for (Cell cell : cells) {
            sum += cell.total();
        }
        return sum;
    }

    private long grabbed() {
        long sum = 0;
        for (Kind kind : kinds) {
            sum += kind.grabbed;
        }
        return sum;
    }

    /** A kind's shares, and how much of it the crane holds for the next minute. */
    private static final class Kind {
        int water = 0;
        int ash = 0;
        // Shares are taken of all that was grabbed of a kind, with the shares of the minute in
        // which it comes into zone 0: so kilograms wait here whole, not as water, fuel and ash.
        long grabbed = 0;
    }

    /** A bunker cell. */
    private static final class Cell {
        final int[] kilograms = new int[KINDS];

        int total() {
            int sum = 0;
            for (int k = 0; k < KINDS; k++) {
                sum += kilograms[k];
            }
            return sum;
        }

        int giveTo(Kind[] takers, int most) {
            int total = total();
            if (total <= 0 || takers.length < KINDS) {
                return 0;
            }
            int grab = Math.min(most, total);
            int missing = grab;
            for (int k = 0; k < KINDS; k++) {
                int part = (int) ((long) kilograms[k] * grab / total);
                hand(takers[k], k, part);
                missing -= part;
            }
            // One round is enough: each kind that was rounded down has one left at least, and
            // fewer are missing than there are such kinds.
            for (int k = 0; k < KINDS && missing > 0; k++) {
                if (kilograms[k] > 0) {
                    hand(takers[k], k, 1);
                    missing--;
                }
            }
            return grab;
        }

        private void hand(Kind taker, int k, int part) {
            kilograms[k] -= part;
            taker.grabbed += part;
        }
    }

    /** A zone of the grate. */
    private static final class Zone {
        long water = 0;
        long fuel = 0;
        long ash = 0;
        int air = 0;
        int drying = 200;

        void add(long moreWater, long moreFuel, long moreAsh) {
            water += moreWater;
            fuel += moreFuel;
            ash += moreAsh;
        }

        long dry(Furnace furnace) {
            long dried = Math.min(thousandths(water, drying), furnace.heat / DRYING_HEAT);
            water -= dried;
            furnace.spendOnDrying(dried * DRYING_HEAT);
            return dried;
        }

        long burn(Furnace furnace) {
            if (water > fuel) {
                return 0;
            }
            long most = Math.min(fuel, air / AIR_FOR_ONE);
            long burnt = Math.min(most, thousandths(fuel, BURNING_SHARE) + 1);
            fuel -= burnt;
            furnace.takeFromFuel(burnt * BURNING_HEAT);
            return burnt;
        }
    }

    /** The zones, what left them in all, and what happened on them in the latest minute. */
    private static final class Grate {
        final Zone[] zones;
        int move = 100;
        long oxygen = 0;
        long burnt = 0;
        long dried = 0;
        long driedInAll = 0;
        long burntInAll = 0;
        long lostInAll = 0;
        long ashInAll = 0;

        Grate(int count) {
            zones = new Zone[within(count, 1, MOST_ZONES) ? count : 1];
            for (int z = 0; z < zones.length; z++) {
                zones[z] = new Zone();
            }
        }

        boolean hasZone(int zone) {
            return zone >= 0 && zone < zones.length;
        }

        void moveOn() {
            for (int z = zones.length - 1; z >= 0; z--) {
                Zone zone = zones[z];
                long water = thousandths(zone.water, move);
                long fuel = thousandths(zone.fuel, move);
                long ash = thousandths(zone.ash, move);
                zone.add(-water, -fuel, -ash);
                if (z + 1 < zones.length) {
                    zones[z + 1].add(water, fuel, ash);
                } else {
                    lostInAll += water + fuel;
                    ashInAll += ash;
                }
            }
        }

        void dryAndBurn(Furnace furnace) {
            long air = 0;
            dried = 0;
            burnt = 0;
            for (Zone zone : zones) {
                dried += zone.dry(furnace);
                burnt += zone.burn(furnace);
                air += zone.air;
            }
            oxygen = air - burnt * AIR_FOR_ONE;
            driedInAll += dried;
            burntInAll += burnt;
        }

        void blow(int v) {
            for (Zone zone : zones) {
                zone.air = v;
            }
        }

        long lying() {
            long sum = 0;
            for (Zone zone : zones) {
                sum += zone.water + zone.fuel + zone.ash;
            }
            return sum;
        }

        long gone() {
            return driedInAll + burntInAll + lostInAll + ashInAll;
        }
    }

    /** The furnace's heat, with the boiler and the burner. */
    private static final class Furnace {
        long heat = 0;
        int boiler = 500;
        long steam = 0;
        boolean burnerTold = false;
        boolean burnerBurnt = false;
        int burnerBelow = 0;
        int burnerHeat = 0;
        long fuelHeatInAll = 0;
        long burnerHeatInAll = 0;
        long steamInAll = 0;
        long dryingHeatInAll = 0;

        void tellBurner(int below, int heatAMinute) {
            burnerTold = true;
            burnerBelow = below;
            burnerHeat = heatAMinute;
        }

        void spendOnDrying(long spent) {
            heat -= spent;
            dryingHeatInAll += spent;
        }

        void takeFromFuel(long brought) {
            heat += brought;
            fuelHeatInAll += brought;
        }

        void fireBurner() {
            burnerBurnt = burnerTold && heat < burnerBelow;
            if (burnerBurnt) {
                heat += burnerHeat;
                burnerHeatInAll += burnerHeat;
            }
        }

        void makeSteam() {
            steam = thousandths(heat, boiler);
            heat -= steam;
            steamInAll += steam;
        }

        long imbalance() {
            return fuelHeatInAll + burnerHeatInAll - steamInAll - dryingHeatInAll - heat;
        }
    }

    /** A controller, of the steam or of the oxygen. */
    private static final class Controller {
        boolean told = false;
        int output = 0;
        private int target = 0;
        private int p = 0;
        private int i = 0;
        private long sum = 0;

        void tell(int newTarget, int newP, int newI) {
            told = true;
            target = newTarget;
            p = newP;
            i = newI;
            sum = 0;
            output = 0;
        }

        void look(long seen) {
            long e = target - seen;
            sum = cut(sum + e, -MOST_SUM, MOST_SUM);
            output = (int) cut(Math.floorDiv(p * e + i * sum, (long) WHOLE), 0, MOST_OUTPUT);
        }
    }

    /** Looks for the plan of grabs that mixes best, and keeps the plan found last. */
    private static final class Mixer {
        final int[] found = new int[MOST_GRABS];
        int foundGrabs = 0;
        private final int[] trial = new int[MOST_GRABS];
        private final int[][] ofThousand = new int[CELLS][KINDS];
        private final int[] filled = new int[CELLS];
        private int filledCount = 0;

        void look(Cell[] cells) {
            filledCount = 0;
            for (int c = 0; c < CELLS && c < cells.length; c++) {
                int total = cells[c].total();
                if (total > 0) {
                    for (int k = 0; k < KINDS; k++) {
                        ofThousand[c][k] = (int) ((long) cells[c].kilograms[k] * WHOLE / total);
                    }
                    filled[filledCount] = c;
                    filledCount++;
                }
            }
        }

        /** Plans are tried in the order of their cells, so the first of equals is the one kept. */
        int leastSpread(int grabs) {
            int least = NONE;
            int plans = countPlans(grabs);
            for (int number = 0; number < plans; number++) {
                spellTrial(number, grabs);
                int spread = spreadOfTrial(grabs);
                if (least == NONE || spread < least) {
                    least = spread;
                    keepTrial(grabs);
                }
            }
            return least;
        }

        private int countPlans(int grabs) {
            int plans = 1;
            for (int g = 0; g < grabs; g++) {
                plans *= filledCount;
            }
            return plans;
        }

        /** The first grab is the highest digit, so that counting up goes through plans in order. */
        private void spellTrial(int number, int grabs) {
            int rest = number;
            for (int g = Math.min(grabs, MOST_GRABS) - 1; g >= 0 && filledCount > 0; g--) {
                trial[g] = filled[rest % filledCount];
                rest /= filledCount;
            }
        }

        private int spreadOfTrial(int grabs) {
            int greatest = sumOfTrial(0, grabs);
            int least = greatest;
            for (int k = 1; k < KINDS; k++) {
                int sum = sumOfTrial(k, grabs);
                greatest = Math.max(greatest, sum);
                least = Math.min(least, sum);
            }
            return greatest - least;
        }

        private int sumOfTrial(int k, int grabs) {
            int sum = 0;
            for (int g = 0; g < grabs && g < MOST_GRABS; g++) {
                sum += ofThousand[trial[g]][k];
            }
            return sum;
        }

        private void keepTrial(int grabs) {
            foundGrabs = Math.min(grabs, MOST_GRABS);
            for (int g = 0; g < foundGrabs; g++) {
                found[g] = trial[g];
            }
        }
    }
}
