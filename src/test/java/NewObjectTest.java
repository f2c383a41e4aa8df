/** Promise 1: what a new object is. */
public final class NewObjectTest {
    public static void main(String[] args) {
        for (int zones = 1; zones <= 6; zones++) {
            hasZones(zones, zones);
        }
        int[] others = {0, -1, 7, 100, Integer.MAX_VALUE, Integer.MIN_VALUE};
        for (int zones : others) {
            hasZones(zones, 1);
        }
        isEmpty();
        hasItsSettings();
        driesInEachZone();
        allIsFuelAtFirst();
        Check.end();
    }

    private static void hasZones(int asked, int due) {
        GrateLayers x = new GrateLayers(asked);
        for (int zone = 0; zone < due; zone++) {
            Check.same(asked + " zones: bed(" + zone + ", 0)", x.bed(zone, 0), 0);
        }
        Check.same(asked + " zones: bed(" + due + ", 0)", x.bed(due, 0), -1);
    }

    private static void isEmpty() {
        GrateLayers x = new GrateLayers(6);
        for (int what = 0; what <= 9; what++) {
            Check.same("new: ash(" + what + ")", x.ash(what), 0);
        }
        for (int zone = 0; zone < 6; zone++) {
            Check.bed("new", x, zone, 0, 0, 0);
            Check.same("new: bed(" + zone + ", 3)", x.bed(zone, 3), 0);
        }
        for (int cell = 0; cell < 6; cell++) {
            Check.cell("new", x, cell, 0, 0, 0, 0);
        }
        Check.gas("new", x, 0, 0, 0, 0);
        Check.balanced("new", x);
        Check.no("new: burning()", x.burning());
        Check.same("new: output(0)", x.output(0), -1);
        Check.same("new: output(1)", x.output(1), -1);
        Check.same("new: planned(0)", x.planned(0), -1);
        Check.same("new: run(1)", x.run(1), 1);
        Check.no("no burner: burning()", x.burning());
        Check.same("no controller: output(0)", x.output(0), -1);
    }

    private static void hasItsSettings() {
        GrateLayers x = new GrateLayers(2);
        x.kind(0, 1000, 0);
        x.bunker(0, 0, 5000);
        Check.same("a grab is 1000: grab(0)", x.grab(0), 1000);
        x.run(1);
        Check.bed("minute 0", x, 0, 1000, 0, 0);
        x.burner(1, 1000000);
        x.run(1);
        Check.bed("the move is 100", x, 0, 900, 0, 0);
        Check.bed("the move is 100", x, 1, 100, 0, 0);
        Check.same("the boiler is 500: gas(0)", x.gas(0), 500000);
    }

    private static void driesInEachZone() {
        GrateLayers x = new GrateLayers(6);
        x.set(1000, 0);
        x.burner(1000000000, 1000000);
        x.run(20);
        x.kind(0, 1000, 0);
        x.bunker(0, 0, 5000);
        for (int g = 0; g < 5; g++) {
            x.grab(0);
        }
        int[] driedDue = {1000, 800, 640, 512, 409, 327};
        int water = 5000;
        for (int zone = 0; zone < 6; zone++) {
            x.run(1);
            water -= driedDue[zone];
            Check.bed("drying is 200", x, zone, water, 0, 0);
        }
    }

    private static void allIsFuelAtFirst() {
        for (int kind = 0; kind < 4; kind++) {
            GrateLayers x = new GrateLayers(1);
            x.bunker(0, kind, 7);
            x.grab(0);
            x.run(1);
            Check.bed("kind " + kind, x, 0, 0, 7, 0);
        }
    }
}
