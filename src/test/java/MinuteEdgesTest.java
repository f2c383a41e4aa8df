/**
 * The edges that the document names of zones and of a minute's steps (1) to (4) (Terms, promises
 * 1, 7, 8, 10, 11 and 15). Above each test stands the sentence that it is for.
 */
public final class MinuteEdgesTest {
    private static final int MIN = Integer.MIN_VALUE;
    private static final int MAX = Integer.MAX_VALUE;
    private static final int MOST_HEAT = 1000000;
    private static final int MOST_BELOW = 1000000000;

    public static void main(String[] args) {
        zonesAreOneToSix();
        zonesAreFromZeroOn();
        airAndHeatAreZeroAtFirst();
        minutesAreNumberedFromZero();
        moveDryingAndBoilerAtFirst();
        airIsZeroToHundredThousand();
        dryingIsZeroToThousand();
        moveIsZeroToThousand();
        boilerIsZeroToThousand();
        theMoveGoesFromTheLastZoneToTheFirst();
        theMovesThousandthsGoDownForEachOfTheThree();
        aSmallBedLiesStill();
        theLastZoneGoesOffTheGrate();
        whatWasGrabbedComesAfterTheMove();
        whatWasGrabbedComesOnce();
        kindsComeEachByItself();
        nothingDriesWithoutHeat();
        driedIsNoMoreThanTheHeatOver2500();
        dryingsThousandthsGoDown();
        theFirstZoneTakesTheHeatFirst();
        burnsWithNoMoreWaterThanFuel();
        waterIsLookedAtAfterDrying();
        burnsNoMoreThanItsFuel();
        burnsByItsAirOverSixDown();
        burnsFiftyThousandthsAndOneMore();
        heatOfWhatBurntIsForLaterZones();
        oxygenIsWhatIsLeftOfTheAir();
        noBurnerUntilItIsTold();
        theBurnerBurnsBelowItsBelow();
        theBurnersBelowIsZeroToAThousandMillion();
        theBurnersHeatIsZeroToAMillion();
        burningIsOfTheLatestMinute();
        theBurnerLooksAfterDryingAndBurning();
        steamIsTheBoilersThousandthsDown();
        minutesAreOneToThousand();
        thereAreTwentyThousandMinutesInAllAtMost();
        Check.end();
    }

    /** An object of one zone with so much water and fuel there and so much heat, which stay. */
    private static GrateLayers with(int water, int fuel, int heat) {
        return with(1, water, fuel, heat);
    }

    private static GrateLayers with(int zones, int water, int fuel, int heat) {
        GrateLayers x = new GrateLayers(zones);
        x.set(0, 0);
        x.kind(0, 1000, 0);
        x.bunker(0, 0, water);
        x.bunker(1, 1, fuel);
        x.crane(10000);
        x.grab(0);
        x.grab(1);
        x.burner(1, heat);
        x.run(1);
        x.burner(0, 0);
        Check.bed("prepared", x, 0, water, fuel, 0);
        Check.same("prepared: ash(9)", x.ash(9), heat);
        return x;
    }

    /** "zones of 1 .. 6 (of another number 1)". */
    private static void zonesAreOneToSix() {
        int[] asked = {1, 2, 3, 4, 5, 6, 0, -1, 7, 8, MIN, MAX};
        int[] due = {1, 2, 3, 4, 5, 6, 1, 1, 1, 1, 1, 1};
        for (int t = 0; t < asked.length; t++) {
            GrateLayers x = new GrateLayers(asked[t]);
            int zones = 0;
            while (zones < 9 && x.bed(zones, 1) == 0) {
                zones++;
            }
            Check.same("zones of GrateLayers(" + asked[t] + ")", zones, due[t]);
            x.bunker(0, 0, 1);
            x.grab(0);
            x.set(1000, 0);
            x.run(due[t]);
            Check.same(asked[t] + " zones: the last one has it", x.bed(due[t] - 1, 1), 1);
            x.run(1);
            Check.same(asked[t] + " zones: then it is off", x.ash(3), 1);
        }
    }

    /** "ZONES of the grate are 0 .. Z - 1". */
    private static void zonesAreFromZeroOn() {
        for (int zones = 1; zones <= 6; zones++) {
            GrateLayers x = new GrateLayers(zones);
            String of = " of " + zones;
            for (int zone = 0; zone < zones; zone++) {
                Check.yes("air(" + zone + ", 5, 5)" + of, x.air(zone, 50 + zone, 5));
            }
            for (int zone : new int[] {-1, zones, zones + 1, MIN, MAX}) {
                Check.no("air(" + zone + ", 5, 5)" + of, x.air(zone, 5, 5));
                for (int what = 0; what <= 3; what++) {
                    Check.same("bed(" + zone + ", " + what + ")" + of, x.bed(zone, what), -1);
                }
            }
            for (int zone = 0; zone < zones; zone++) {
                Check.same("bed(" + zone + ", 3)" + of, x.bed(zone, 3), 50 + zone);
            }
        }
    }

    /** "with AIR (0 at first)"; "THE FURNACE'S HEAT is whole units, 0 at first". */
    private static void airAndHeatAreZeroAtFirst() {
        GrateLayers x = new GrateLayers(6);
        for (int zone = 0; zone < 6; zone++) {
            Check.same("new: bed(" + zone + ", 3)", x.bed(zone, 3), 0);
        }
        Check.same("new: ash(9)", x.ash(9), 0);
        x.bunker(0, 0, 1000);
        x.grab(0);
        x.run(10);
        Check.gas("no air, no fire", x, 0, 0, 0, 0);
        Check.same("no air, no fire: ash(2)", x.ash(2), 0);
        Check.same("no air, no heat: ash(9)", x.ash(9), 0);
    }

    /** "A MINUTE, numbered from 0 on"; "minute 0 is the next one". */
    private static void minutesAreNumberedFromZero() {
        GrateLayers x = new GrateLayers(1);
        Check.same("after minute 0: run(1)", x.run(1), 1);
        Check.same("after minutes 1 and 2: run(2)", x.run(2), 3);
    }

    /** "the move is 100, drying 200 in each zone, the boiler 500" of a new object. */
    private static void moveDryingAndBoilerAtFirst() {
        for (int zone = 0; zone < 6; zone++) {
            GrateLayers x = new GrateLayers(6);
            x.set(1000, 0);
            x.burner(MOST_BELOW, MOST_HEAT);
            x.run(3);
            x.kind(0, 1000, 0);
            x.bunker(0, 0, 1000);
            x.grab(0);
            for (int dry = 0; dry < zone; dry++) {
                x.air(dry, 0, 0);
            }
            x.run(zone + 1);
            Check.bed("200 of 1000 dried there first", x, zone, 800, 0, 0);
        }
        GrateLayers x = new GrateLayers(1);
        x.bunker(0, 0, 1000);
        x.grab(0);
        x.burner(1, 1000);
        x.run(1);
        Check.same("500 of 1000: gas(0)", x.gas(0), 500);
        x.run(1);
        Check.same("100 of 1000: ash(3)", x.ash(3), 100);
    }

    /** "A zone's air (0 .. 100000)". */
    private static void airIsZeroToHundredThousand() {
        GrateLayers x = new GrateLayers(2);
        for (int v : new int[] {100000, 99999, 1, 0}) {
            Check.yes("air(1, " + v + ", 0)", x.air(1, v, 0));
            Check.same("bed(1, 3)", x.bed(1, 3), v);
            x.run(1);
            Check.same("gas(1)", x.gas(1), v);
        }
        x.air(1, 44, 0);
        for (int v : new int[] {-1, 100001, MIN, MAX}) {
            Check.no("air(1, " + v + ", 0)", x.air(1, v, 0));
            Check.same("as it was: bed(1, 3)", x.bed(1, 3), 44);
        }
        Check.same("the other zone's: bed(0, 3)", x.bed(0, 3), 0);
    }

    /** ".. and drying (0 .. 1000)". */
    private static void dryingIsZeroToThousand() {
        int[] dryings = {0, 1, 999, 1000};
        int[] dried = {0, 1, 999, 1000};
        for (int t = 0; t < dryings.length; t++) {
            GrateLayers x = with(1000, 0, MOST_HEAT);
            x.burner(MOST_BELOW, MOST_HEAT);
            x.air(0, 0, 0);
            x.run(3);
            Check.yes("air(0, 0, " + dryings[t] + ")", x.air(0, 0, dryings[t]));
            x.run(1);
            Check.same("drying " + dryings[t] + ": gas(3)", x.gas(3), dried[t]);
        }
        for (int drying : new int[] {-1, 1001, MIN, MAX}) {
            GrateLayers x = with(1000, 0, MOST_HEAT);
            x.air(0, 9, 300);
            Check.no("air(0, 8, " + drying + ")", x.air(0, 8, drying));
            x.run(1);
            Check.gas("as it was, not " + drying, x, 0, 9, 0, 300);
        }
    }

    /** "The move and the boiler, 0 .. 1000 thousandths both.": the move. */
    private static void moveIsZeroToThousand() {
        for (int move : new int[] {0, 1, 999, 1000}) {
            GrateLayers x = with(0, 1000, 0);
            Check.yes("set(" + move + ", 0)", x.set(move, 0));
            x.run(1);
            Check.same("move " + move + ": ash(3)", x.ash(3), move);
            Check.same("move " + move + ": bed(0, 1)", x.bed(0, 1), 1000 - move);
        }
        for (int move : new int[] {-1, 1001, MIN, MAX}) {
            GrateLayers x = with(0, 1000, 1000);
            x.set(300, 400);
            Check.no("set(" + move + ", 7)", x.set(move, 7));
            x.run(1);
            Check.same("as it was, not " + move + ": ash(3)", x.ash(3), 300);
            Check.same("the boiler as it was: gas(0)", x.gas(0), 400);
        }
    }

    /** "The move and the boiler, 0 .. 1000 thousandths both.": the boiler. */
    private static void boilerIsZeroToThousand() {
        for (int boiler : new int[] {0, 1, 999, 1000}) {
            GrateLayers x = with(0, 0, 1000);
            Check.yes("set(0, " + boiler + ")", x.set(0, boiler));
            x.run(1);
            Check.same("boiler " + boiler + ": gas(0)", x.gas(0), boiler);
            Check.same("boiler " + boiler + ": ash(9)", x.ash(9), 1000 - boiler);
        }
        for (int boiler : new int[] {-1, 1001, MIN, MAX}) {
            GrateLayers x = with(0, 1000, 1000);
            x.set(300, 400);
            Check.no("set(7, " + boiler + ")", x.set(7, boiler));
            x.run(1);
            Check.same("as it was, not " + boiler + ": gas(0)", x.gas(0), 400);
            Check.same("the move as it was: ash(3)", x.ash(3), 300);
        }
    }

    /** "For each zone from the last one to the first": nothing goes two zones in one minute. */
    private static void theMoveGoesFromTheLastZoneToTheFirst() {
        GrateLayers x = new GrateLayers(6);
        x.kind(0, 250, 250);
        x.bunker(0, 0, 8);
        x.grab(0);
        x.set(1000, 0);
        for (int minute = 0; minute < 6; minute++) {
            x.run(1);
            for (int zone = 0; zone < 6; zone++) {
                boolean here = zone == minute;
                Check.bed("minute " + minute, x, zone, here ? 2 : 0, here ? 4 : 0, here ? 2 : 0);
            }
        }
        Check.same("on the last zone: ash(3)", x.ash(3), 0);
        x.run(1);
        Check.same("off: ash(3)", x.ash(3), 6);
        Check.same("off: ash(4)", x.ash(4), 2);
    }

    /** "the MOVE's thousandths of each of its three": n times x over 1000, down, for each. */
    private static void theMovesThousandthsGoDownForEachOfTheThree() {
        int[] moves = {1, 1, 333, 334, 500, 999, 999, 1000};
        int[] lying = {999, 1000, 3, 3, 3, 1, 1001, 1};
        int[] going = {0, 1, 0, 1, 1, 0, 999, 1};
        for (int t = 0; t < moves.length; t++) {
            GrateLayers x = new GrateLayers(2);
            x.kind(0, 1000, 0);
            x.kind(2, 0, 1000);
            x.crane(10000);
            for (int kind = 0; kind < 3; kind++) {
                x.bunker(0, kind, lying[t]);
            }
            x.grab(0);
            x.run(1);
            x.set(moves[t], 0);
            x.run(1);
            int left = lying[t] - going[t];
            String when = "move " + moves[t] + " of " + lying[t];
            Check.bed(when, x, 0, left, left, left);
            Check.bed(when, x, 1, going[t], going[t], going[t]);
        }
    }

    /** "down": less than a whole kilogram never goes, however many minutes run. */
    private static void aSmallBedLiesStill() {
        GrateLayers x = with(9, 9, 0);
        x.set(100, 0);
        x.air(0, 0, 0);
        x.run(1000);
        Check.bed("100 thousandths of 9", x, 0, 9, 9, 0);
        Check.same("ash(3)", x.ash(3), 0);
    }

    /** "those of the last zone go off the grate: of water and fuel they are LOST, of ash ASH". */
    private static void theLastZoneGoesOffTheGrate() {
        for (int zones = 1; zones <= 6; zones++) {
            GrateLayers x = new GrateLayers(zones);
            x.kind(0, 200, 300);
            x.bunker(0, 0, 1000);
            x.grab(0);
            x.set(1000, 0);
            x.run(zones);
            Check.bed(zones + " zones: on the last", x, zones - 1, 200, 500, 300);
            Check.same(zones + " zones, none off: ash(3)", x.ash(3), 0);
            Check.same(zones + " zones, none off: ash(4)", x.ash(4), 0);
            x.set(500, 0);
            x.run(1);
            Check.bed(zones + " zones: half off", x, zones - 1, 100, 250, 150);
            Check.same(zones + " zones, half off: ash(3)", x.ash(3), 350);
            Check.same(zones + " zones, half off: ash(4)", x.ash(4), 150);
            Check.balanced(zones + " zones", x);
        }
    }

    /** "(2) What was grabbed since the minute before comes into zone 0": it does not move yet. */
    private static void whatWasGrabbedComesAfterTheMove() {
        GrateLayers x = new GrateLayers(2);
        x.set(1000, 0);
        x.bunker(0, 0, 10);
        x.grab(0);
        Check.bed("grabbed", x, 0, 0, 0, 0);
        x.run(1);
        Check.bed("come", x, 0, 0, 10, 0);
        Check.bed("come", x, 1, 0, 0, 0);
    }

    /** "What was grabbed since the minute before": each kilogram in one minute, or nothing. */
    private static void whatWasGrabbedComesOnce() {
        GrateLayers x = new GrateLayers(1);
        x.set(0, 0);
        x.run(1);
        Check.bed("nothing was grabbed", x, 0, 0, 0, 0);
        x.bunker(0, 0, 30);
        x.crane(10);
        x.grab(0);
        x.grab(0);
        x.run(5);
        Check.bed("two grabs", x, 0, 0, 20, 0);
        x.grab(0);
        x.run(1);
        Check.bed("a third one", x, 0, 0, 30, 0);
        Check.balanced("a third one", x);
    }

    /** "of each kind, by numbers, the shares' thousandths of its kilograms": each down. */
    private static void kindsComeEachByItself() {
        GrateLayers x = new GrateLayers(1);
        for (int kind = 0; kind < 4; kind++) {
            x.kind(kind, 500, 500);
            x.bunker(kind, kind, 1);
            x.grab(kind);
        }
        x.run(1);
        Check.bed("four kinds of 1", x, 0, 0, 4, 0);
        GrateLayers y = new GrateLayers(1);
        y.kind(3, 500, 500);
        for (int cell = 0; cell < 6; cell++) {
            y.bunker(cell, 3, 1);
            y.grab(cell);
        }
        y.run(1);
        Check.bed("one kind of 6", y, 0, 3, 0, 3);
    }

    /** "but no more than the furnace's heat over 2500": of no heat nothing. */
    private static void nothingDriesWithoutHeat() {
        GrateLayers x = with(1000, 0, 0);
        x.air(0, 0, 1000);
        x.run(100);
        Check.bed("no heat", x, 0, 1000, 0, 0);
        Check.gas("no heat", x, 0, 0, 0, 0);
        Check.same("no heat: ash(8)", x.ash(8), 0);
    }

    /** "no more than the furnace's heat over 2500, down; for each of these 2500 heat go". */
    private static void driedIsNoMoreThanTheHeatOver2500() {
        int[] heats = {1, 2499, 2500, 2501, 4999, 5000, 24999, 25000, 25001, 27500};
        int[] dried = {0, 0, 1, 1, 1, 2, 9, 10, 10, 10};
        for (int t = 0; t < heats.length; t++) {
            GrateLayers x = with(10, 0, heats[t]);
            x.air(0, 0, 1000);
            x.run(1);
            String when = "heat " + heats[t];
            Check.same(when + ": gas(3)", x.gas(3), dried[t]);
            Check.same(when + ": bed(0, 0)", x.bed(0, 0), 10 - dried[t]);
            Check.same(when + ": ash(9)", x.ash(9), heats[t] - 2500 * dried[t]);
            Check.same(when + ": ash(8)", x.ash(8), 2500 * dried[t]);
        }
    }

    /** "DRIED are its DRYING's thousandths of its water": n times x over 1000, down. */
    private static void dryingsThousandthsGoDown() {
        int[] waters = {0, 1, 1, 4, 5, 9, 10, 999, 1000};
        int[] dryings = {1000, 999, 1000, 200, 200, 200, 200, 1, 1};
        int[] dried = {0, 0, 1, 0, 1, 1, 2, 0, 1};
        for (int t = 0; t < waters.length; t++) {
            GrateLayers x = with(waters[t], 0, MOST_HEAT);
            x.air(0, 0, dryings[t]);
            x.run(1);
            String when = dryings[t] + " thousandths of " + waters[t];
            Check.same(when + ": gas(3)", x.gas(3), dried[t]);
            Check.same(when + ": ash(9)", x.ash(9), MOST_HEAT - 2500 * dried[t]);
        }
    }

    /** "(3) For each zone from the first one on": what a zone took is not there for the next. */
    private static void theFirstZoneTakesTheHeatFirst() {
        int[] heats = {2499, 2500, 7500, 10000, 12499, 15000, 20000};
        int[] first = {0, 1, 3, 4, 4, 4, 4};
        int[] second = {0, 0, 0, 0, 0, 2, 4};
        for (int t = 0; t < heats.length; t++) {
            GrateLayers x = with(2, 8, 0, heats[t]);
            x.set(500, 0);
            x.air(0, 0, 1000);
            x.air(1, 0, 1000);
            x.run(1);
            String when = "heat " + heats[t];
            Check.bed(when, x, 0, 4 - first[t], 0, 0);
            Check.bed(when, x, 1, 4 - second[t], 0, 0);
        }
    }

    /** "BURNT are, when it has no more water than fuel then". */
    private static void burnsWithNoMoreWaterThanFuel() {
        int[] waters = {0, 9, 10, 11, 100};
        int[] burnt = {1, 1, 1, 0, 0};
        for (int t = 0; t < waters.length; t++) {
            GrateLayers x = with(waters[t], 10, 0);
            x.air(0, 600, 1000);
            x.run(1);
            Check.same("water " + waters[t] + ", fuel 10: gas(2)", x.gas(2), burnt[t]);
            Check.same("water " + waters[t] + ", fuel 10: ash(9)", x.ash(9), 10000 * burnt[t]);
        }
        GrateLayers wet = with(1, 0, 0);
        wet.air(0, 600, 0);
        wet.run(1);
        Check.same("water 1, no fuel: gas(2)", wet.gas(2), 0);
    }

    /** "when it has no more water than fuel then": after it dried. */
    private static void waterIsLookedAtAfterDrying() {
        int[] heats = {4999, 5000, 7500};
        int[] burnt = {0, 1, 1};
        for (int t = 0; t < heats.length; t++) {
            GrateLayers x = with(12, 10, heats[t]);
            x.air(0, 600, 1000);
            x.run(1);
            Check.same("12 water, 10 fuel, heat " + heats[t] + ": gas(2)", x.gas(2), burnt[t]);
        }
    }

    /** "the least of its fuel": of none nothing, and the last kilogram burns too. */
    private static void burnsNoMoreThanItsFuel() {
        GrateLayers none = with(0, 0, 0);
        none.air(0, 100000, 0);
        none.run(1);
        Check.gas("no fuel", none, 0, 100000, 0, 0);
        Check.bed("no fuel", none, 0, 0, 0, 0);
        GrateLayers x = with(0, 2, 0);
        x.air(0, 100000, 0);
        x.run(1);
        Check.bed("the first of two", x, 0, 0, 1, 0);
        x.run(1);
        Check.bed("the last one", x, 0, 0, 0, 0);
        Check.same("the last one: gas(2)", x.gas(2), 1);
        x.run(1);
        Check.bed("none is left", x, 0, 0, 0, 0);
        Check.same("none is left: gas(2)", x.gas(2), 0);
        Check.same("ash(2)", x.ash(2), 2);
    }

    /** "its air over 6, down". */
    private static void burnsByItsAirOverSixDown() {
        int[] airs = {0, 1, 5, 6, 7, 11, 12, 13, 3005, 3006, 3007, 100000};
        int[] burnt = {0, 0, 0, 1, 1, 1, 2, 2, 500, 501, 501, 501};
        for (int t = 0; t < airs.length; t++) {
            GrateLayers x = with(0, 10000, 0);
            x.air(0, airs[t], 0);
            x.run(1);
            Check.gas("air " + airs[t], x, 0, airs[t] - 6 * burnt[t], burnt[t], 0);
        }
    }

    /** "50 thousandths of its fuel and 1 more": down, then 1. */
    private static void burnsFiftyThousandthsAndOneMore() {
        int[] fuels = {1, 2, 19, 20, 21, 39, 40, 41, 59, 60, 9999, 10000};
        int[] burnt = {1, 1, 1, 2, 2, 2, 3, 3, 3, 4, 500, 501};
        for (int t = 0; t < fuels.length; t++) {
            GrateLayers x = with(0, fuels[t], 0);
            x.air(0, 100000, 0);
            x.run(1);
            Check.same("fuel " + fuels[t] + ": gas(2)", x.gas(2), burnt[t]);
            Check.same("fuel " + fuels[t] + ": bed(0, 1)", x.bed(0, 1), fuels[t] - burnt[t]);
        }
    }

    /** "for each of these 10000 heat come": too late for the zone itself, not for the next. */
    private static void heatOfWhatBurntIsForLaterZones() {
        GrateLayers x = with(2, 8, 8, 0);
        x.set(500, 0);
        x.air(0, 6, 1000);
        x.air(1, 6, 1000);
        x.run(1);
        Check.bed("zone 0 burnt, and did not dry", x, 0, 4, 3, 0);
        Check.bed("zone 1 dried all by it, and burnt", x, 1, 0, 3, 0);
        Check.gas("both", x, 0, 0, 2, 4);
        Check.same("ash(9)", x.ash(9), 10000);
    }

    /** "OXYGEN is what the air of all zones is more than 6 times all that burnt." */
    private static void oxygenIsWhatIsLeftOfTheAir() {
        GrateLayers x = with(6, 0, 10, 0);
        x.run(1);
        Check.same("no air: gas(1)", x.gas(1), 0);
        x.air(0, 6, 0);
        x.run(1);
        Check.same("all was used: gas(1)", x.gas(1), 0);
        x.air(0, 5, 0);
        x.run(1);
        Check.same("too little to burn: gas(1)", x.gas(1), 5);
        for (int zone = 0; zone < 6; zone++) {
            x.air(zone, 100000, 0);
        }
        x.run(1);
        Check.same("of all zones: gas(1)", x.gas(1), 600000 - 6);
    }

    /** "THE BURNER, when it is told"; "no burner" of a new object. */
    private static void noBurnerUntilItIsTold() {
        GrateLayers x = new GrateLayers(1);
        Check.no("new: burning()", x.burning());
        x.run(1000);
        Check.no("not told: burning()", x.burning());
        Check.same("not told: ash(6)", x.ash(6), 0);
        x.burner(1, 0);
        Check.no("told, no minute yet: burning()", x.burning());
        x.run(1);
        Check.yes("told: burning()", x.burning());
    }

    /** "when the furnace's heat is below its BELOW it burns". */
    private static void theBurnerBurnsBelowItsBelow() {
        int[] belows = {0, 1, 99, 100, 101, MOST_BELOW};
        boolean[] burns = {false, false, false, false, true, true};
        for (int t = 0; t < belows.length; t++) {
            GrateLayers x = with(0, 0, 100);
            x.burner(belows[t], 7);
            x.run(1);
            String when = "heat 100, below " + belows[t];
            Check.same(when + ": burning()", x.burning() ? 1 : 0, burns[t] ? 1 : 0);
            Check.same(when + ": ash(9)", x.ash(9), burns[t] ? 107 : 100);
            Check.same(when + ": ash(6)", x.ash(6), burns[t] ? 107 : 100);
        }
    }

    /** "below 0 .. 1000000000". */
    private static void theBurnersBelowIsZeroToAThousandMillion() {
        GrateLayers x = new GrateLayers(1);
        x.set(0, 0);
        Check.yes("burner(0, 5)", x.burner(0, 5));
        x.run(1);
        Check.no("no heat is not below 0: burning()", x.burning());
        Check.yes("burner(1, 999999)", x.burner(1, 999999));
        x.run(1);
        Check.yes("no heat is below 1: burning()", x.burning());
        Check.yes("burner(1000000000, 1000000)", x.burner(MOST_BELOW, MOST_HEAT));
        x.run(1000);
        Check.yes("999999999 is below it: burning()", x.burning());
        Check.same("999999999 is below it: ash(9)", x.ash(9), 1000999999L);
        x.run(1);
        Check.no("1000999999 is not below it: burning()", x.burning());
        x.burner(0, 0);
        for (int below : new int[] {-1, MOST_BELOW + 1, MIN, MAX}) {
            Check.no("burner(" + below + ", 5)", x.burner(below, 5));
            x.run(1);
            Check.no("as it was: burning()", x.burning());
        }
    }

    /** "it brings 0 .. 1000000 heat a minute". */
    private static void theBurnersHeatIsZeroToAMillion() {
        for (int heat : new int[] {0, 1, 999999, 1000000}) {
            GrateLayers x = new GrateLayers(1);
            x.set(0, 0);
            Check.yes("burner(1, " + heat + ")", x.burner(1, heat));
            x.run(1);
            Check.yes("heat " + heat + ": burning()", x.burning());
            Check.same("heat " + heat + ": ash(9)", x.ash(9), heat);
        }
        for (int heat : new int[] {-1, 1000001, MIN, MAX}) {
            GrateLayers x = new GrateLayers(1);
            x.set(0, 0);
            x.burner(50, 30);
            Check.no("burner(1000, " + heat + ")", x.burner(1000, heat));
            x.run(3);
            Check.same("as it was, not " + heat + ": ash(6)", x.ash(6), 60);
        }
        GrateLayers none = new GrateLayers(1);
        Check.no("burner(5, -1)", none.burner(5, -1));
        none.run(1);
        Check.no("refused, so not told: burning()", none.burning());
    }

    /** "Whether the burner burnt in the latest minute." */
    private static void burningIsOfTheLatestMinute() {
        GrateLayers x = new GrateLayers(1);
        x.set(0, 0);
        x.burner(10, 10);
        x.run(1);
        Check.yes("minute 0: burning()", x.burning());
        x.run(1);
        Check.no("minute 1: burning()", x.burning());
        x.burner(11, 0);
        Check.no("told again, no minute: burning()", x.burning());
        x.run(1);
        Check.yes("minute 2: burning()", x.burning());
        x.burner(0, 0);
        Check.yes("told again, no minute: burning()", x.burning());
        Check.same("run(0)", x.run(0), -1);
        Check.same("run(1001)", x.run(1001), -1);
        Check.yes("refused minutes: burning()", x.burning());
        x.run(1);
        Check.no("minute 3: burning()", x.burning());
    }

    /** "(4) THE BURNER": after what dried and burnt in this minute, before the steam. */
    private static void theBurnerLooksAfterDryingAndBurning() {
        GrateLayers dry = with(1, 0, 2500);
        dry.air(0, 0, 1000);
        dry.set(0, 1000);
        dry.burner(1, 40);
        dry.run(1);
        Check.yes("all heat went for drying: burning()", dry.burning());
        Check.same("its heat is steam at once: gas(0)", dry.gas(0), 40);
        GrateLayers hot = with(0, 1, 0);
        hot.air(0, 6, 0);
        hot.set(0, 1000);
        hot.burner(10000, 40);
        hot.run(1);
        Check.no("10000 came of what burnt: burning()", hot.burning());
        Check.same("gas(0)", hot.gas(0), 10000);
        hot.run(1);
        Check.yes("all heat was steam: burning()", hot.burning());
    }

    /** "STEAM is the boiler's thousandths of the furnace's heat, and goes off it": down. */
    private static void steamIsTheBoilersThousandthsDown() {
        int[] heats = {0, 1, 1, 1, 999, 1000, 1999, 3};
        int[] boilers = {1000, 999, 1000, 500, 1, 1, 500, 334};
        int[] steam = {0, 0, 1, 0, 0, 1, 999, 1};
        for (int t = 0; t < heats.length; t++) {
            GrateLayers x = with(0, 0, heats[t]);
            x.set(0, boilers[t]);
            x.run(1);
            String when = boilers[t] + " thousandths of " + heats[t];
            Check.same(when + ": gas(0)", x.gas(0), steam[t]);
            Check.same(when + ": ash(7)", x.ash(7), steam[t]);
            Check.same(when + ": ash(9)", x.ash(9), heats[t] - steam[t]);
        }
    }

    /** "Runs 1 .. 1000 minutes."; "NONE when minutes are not such". */
    private static void minutesAreOneToThousand() {
        GrateLayers x = new GrateLayers(1);
        x.set(0, 0);
        x.burner(MOST_BELOW, 1);
        for (int minutes : new int[] {0, -1, 1001, MIN, MAX}) {
            Check.same("run(" + minutes + ")", x.run(minutes), -1);
            Check.same("no minute ran: ash(9)", x.ash(9), 0);
        }
        Check.same("run(1)", x.run(1), 1);
        Check.same("one ran: ash(9)", x.ash(9), 1);
        Check.same("run(999)", x.run(999), 1000);
        Check.same("run(1000)", x.run(1000), 2000);
        Check.same("2000 ran: ash(9)", x.ash(9), 2000);
    }

    /** "or there were more than 20000 in all". */
    private static void thereAreTwentyThousandMinutesInAllAtMost() {
        GrateLayers x = new GrateLayers(1);
        x.set(0, 0);
        x.burner(MOST_BELOW, 1);
        for (int thousand = 1; thousand < 20; thousand++) {
            Check.same("run(1000)", x.run(1000), 1000 * thousand);
        }
        Check.same("run(1)", x.run(1), 19001);
        Check.same("20001 in all: run(1000)", x.run(1000), -1);
        Check.same("it ran none: ash(9)", x.ash(9), 19001);
        Check.same("20000 in all: run(999)", x.run(999), 20000);
        Check.same("they ran: ash(9)", x.ash(9), 20000);
        Check.same("20001 in all: run(1)", x.run(1), -1);
        Check.same("run(1000)", x.run(1000), -1);
        Check.same("run(2147483647)", x.run(MAX), -1);
        Check.same("none ran: ash(9)", x.ash(9), 20000);
        GrateLayers y = new GrateLayers(1);
        for (int thousand = 1; thousand <= 20; thousand++) {
            Check.same("run(1000)", y.run(1000), 1000 * thousand);
        }
        Check.same("20001 in all: run(1)", y.run(1), -1);
    }
}
