/** The terms of the point and the zones, each sentence by itself. */
final class ZonesSentences extends Sentences {
    static void thePointIsInTheMiddleAtFirst() {
        terms("There is a point with a coordinate on each axis (at first 500 and 500).");
        GainTables t = new GainTables();
        due(t.count(2), 500);
        due(t.count(3), 500);
        due(t.sweep(0, 500, 1), ILLEGAL);
        due(t.sweep(1, 500, 1), ILLEGAL);
        due(t.sweep(0, 501, 1), 0);
        due(t.count(8), 1);
    }

    static void stickyBordersPartAnAxisIntoZones() {
        terms("The sticky borders of an axis part it into zones, numbered from 0");
        for (int axis = 0; axis <= 1; axis++) {
            GainTables t = new GainTables();
            due(t.axis(axis, 1), 1);
            for (int border = 0; border < 6; border++) {
                due(t.addBorder(axis, 100 + 100 * border, 0, 0), border);
                due(t.axis(axis, 1), border + 2);
                due(t.axis(1 - axis, 1), 1);
            }
            for (int zone = 0; zone <= 6; zone++) {
                t.move(axis == 0 ? 50 + 100 * zone : 0, axis == 1 ? 50 + 100 * zone : 0);
                due(t.count(4 + axis), zone);
            }
        }
    }

    static void blendingBordersPartNoZones() {
        terms(": a zone consists of the strips between two sticky borders that follow on one"
                + " another.");
        GainTables t = Look.of("x100 5~;x200 5;x300 5~;x400 5~;x500 5;x600 5~;");
        due(t.axis(0, 1), 3);
        int[] places = {0, 100, 199, 206, 300, 400, 494, 506, 600, 1000};
        int[] zones = {0, 0, 0, 1, 1, 1, 1, 2, 2, 2};
        for (int i = 0; i < places.length; i++) {
            t.move(places[i], 0);
            due(t.count(4), zones[i]);
        }
        due(Look.of("y100 5~;y300 5~;").axis(1, 1), 1);
    }

    static void oneZoneOfEachAxisIsActive() {
        terms("One zone of each axis is active.");
        GainTables t = Look.of("x400 5;x600 5;y300 5;");
        int[][] due = {{0, 0}, {1, 0}, {2, 0}, {0, 1}, {1, 1}, {2, 1}};
        for (int i = 0; i < due.length; i++) {
            t.move(200 + 300 * (i % 3), i < 3 ? 0 : 1000);
            due(t.count(4), due[i][0]);
            due(t.count(5), due[i][1]);
        }
    }

    static void theNextZoneBeginsAtPositionPlusReach() {
        terms("When the point has moved, the active zone changes on each axis like this: as long as"
                + " there is a sticky border at the upper end of the active zone, and the coordinate"
                + " is at least its position plus its reach, the next zone becomes active");
        for (int reach = 0; reach <= 100; reach += 25) {
            GainTables t = new GainTables();
            t.addBorder(0, 400, 0, reach);
            t.addBorder(1, 600, 0, reach);
            t.move(0, 0);
            zones(t, 0, 0);
            t.move(400 + reach - 1, 600 + reach - 1);
            zones(t, 0, 0);
            t.move(400 + reach, 600 + reach - 1);
            zones(t, 1, 0);
            t.move(400 + reach, 600 + reach);
            zones(t, 1, 1);
        }
    }

    static void zonesChangeUpAsLongAsThereIsABorder() {
        terms("When the point has moved, the active zone changes on each axis like this: as long as"
                + " there is a sticky border at the upper end of the active zone, and the coordinate"
                + " is at least its position plus its reach, the next zone becomes active");
        int[] places = {109, 110, 219, 220, 300, 439, 440, 1000};
        int[] zones = {0, 1, 1, 2, 2, 2, 3, 3};
        for (int i = 0; i < places.length; i++) {
            GainTables t = Look.of("x100 10;x200 20;x300 30~;x400 40;");
            t.move(0, 0);
            t.move(places[i], 0);
            due(t.count(4), zones[i]);
        }
    }

    static void theZoneBelowBeginsUnderPositionMinusReach() {
        terms("; then, as long as there is one at its lower end, and the coordinate is less than its"
                + " position minus its reach, the zone below becomes active.");
        for (int reach = 0; reach <= 100; reach += 25) {
            GainTables t = new GainTables();
            t.addBorder(0, 400, 0, reach);
            t.addBorder(1, 600, 0, reach);
            t.move(1000, 1000);
            zones(t, 1, 1);
            t.move(400 - reach, 600 - reach);
            zones(t, 1, 1);
            t.move(400 - reach - 1, 600 - reach);
            zones(t, 0, 1);
            t.move(0, 600 - reach - 1);
            zones(t, 0, 0);
        }
    }

    static void zonesChangeDownAsLongAsThereIsABorder() {
        terms("; then, as long as there is one at its lower end, and the coordinate is less than its"
                + " position minus its reach, the zone below becomes active.");
        int[] places = {360, 359, 300, 180, 179, 90, 89, 0};
        int[] zones = {3, 2, 2, 2, 1, 1, 0, 0};
        for (int i = 0; i < places.length; i++) {
            GainTables t = Look.of("y100 10;y200 20;y300 30~;y400 40;");
            t.move(0, 1000);
            t.move(0, places[i]);
            due(t.count(5), zones[i]);
        }
    }

    static void betweenTheTwoEndsOfABorderTheZoneStays() {
        terms("as long as there is one at its lower end");
        for (int place = 350; place <= 449; place++) {
            GainTables t = Look.of("x400 50;");
            t.move(0, 0);
            t.move(place, 0);
            due(t.count(4), 0);
            t.move(1000, 0);
            t.move(place, 0);
            due(t.count(4), 1);
        }
    }

    static void aBorderWithReachZeroChangesZonesAtItsPosition() {
        terms("(So a border with the reach 0 changes zones at its position.)");
        GainTables t = Look.of("x400 0;x401 0;");
        int[] places = {399, 400, 401, 400, 399, 401, 399};
        int[] zones = {0, 1, 2, 1, 0, 2, 0};
        for (int i = 0; i < places.length; i++) {
            t.move(places[i], 0);
            due(t.count(4), zones[i]);
        }
    }

    static void anAddedBorderFindsTheZonesAnew() {
        terms("Whenever borders or reaches are changed");
        for (int axis = 0; axis <= 1; axis++) {
            for (int kind = 0; kind <= 1; kind++) {
                GainTables t = stuck();
                due(t.addBorder(axis, 800, kind, 1), 1);
                zones(t, 0, 1);
            }
        }
        GainTables below = stuck();
        due(below.addBorder(0, 10, 0, 1), 0);
        zones(below, 1, 1);
    }

    static void aRemovedBorderFindsTheZonesAnew() {
        terms("Whenever borders or reaches are changed");
        GainTables t = stuck();
        due(t.removeBorder(0, 1), 1);
        zones(t, 0, 1);
        GainTables other = stuck();
        due(other.removeBorder(1, 1), 1);
        zones(other, 0, 1);
        GainTables own = stuck();
        due(own.removeBorder(0, 0), 1);
        zones(own, 0, 1);
    }

    static void aChangedReachFindsTheZonesAnew() {
        terms("Whenever borders or reaches are changed");
        int[][] changes = {{0, 0, 49}, {1, 0, 49}, {0, 1, 2}, {1, 1, 2}};
        for (int[] c : changes) {
            GainTables t = stuck();
            due(t.setReach(c[0], c[1], c[2]), c[1] == 0 ? 50 : 5);
            zones(t, 0, 1);
        }
    }

    /** The document does not say that a reach set to what it is does not count: NOTES.md. */
    static void aReachThatStaysTheSameIsSetAllTheSame() {
        terms("Whenever borders or reaches are changed");
        GainTables t = stuck();
        due(t.setReach(1, 0, 50), 50);
        zones(t, 0, 1);
    }

    static void aLoadedTableFindsTheZonesAnew() {
        terms(", or the table is loaded");
        GainTables t = stuck();
        due(Look.read(t, STUCK), 4);
        zones(t, 0, 1);
        due(Look.read(t, ""), 0);
        zones(t, 0, 0);
    }

    static void aRestoredSnapshotFindsTheZonesAnew() {
        terms(", or a snapshot is restored");
        GainTables t = stuck();
        t.take(0);
        zones(t, 1, 0);
        due(t.restore(0), 9);
        zones(t, 0, 1);
    }

    static void undoBringsBackTheZonesOfItsState() {
        terms("(but not by undo(), which brings back the zones of its state)");
        GainTables t = stuck();
        t.take(0);
        for (int action = 0; action <= 4; action++) {
            change(t, action);
            zones(t, 0, 1);
            due(t.undo() >= 0 ? 1 : 0, 1);
            zones(t, 1, 0);
        }
    }

    private static void change(GainTables t, int action) {
        switch (action) {
            case 0: due(t.addBorder(0, 990, 0, 1), 2); break;
            case 1: due(t.removeBorder(1, 1), 1); break;
            case 2: due(t.setReach(0, 0, 10), 50); break;
            case 3: due(Look.read(t, STUCK), 4); break;
            default: due(t.restore(0), 9); break;
        }
    }

    static void aStickyBorderCountsByItsPosition() {
        terms(", the active zones become those in which the coordinates of the point lie, where a"
                + " sticky border counts by its position alone");
        for (int place = 351; place <= 399; place += 8) {
            GainTables t = Look.of("x400 50;x700 50;");
            t.move(place, 0);
            due(t.count(4), 1);
            t.setReach(0, 1, 49);
            due(t.count(4), 0);
        }
        for (int place = 401; place <= 449; place += 8) {
            GainTables t = Look.of("x400 50;x700 50;");
            t.move(0, 0);
            t.move(place, 0);
            due(t.count(4), 0);
            t.setReach(0, 1, 49);
            due(t.count(4), 1);
        }
    }

    static void aBlendingBorderDoesNotCount() {
        terms(", the active zones become those in which the coordinates of the point lie, where a"
                + " sticky border counts by its position alone");
        GainTables t = Look.of("x100 5~;x200 5;x300 5~;");
        due(t.count(4), 1);
        t.addBorder(0, 400, 1, 9);
        due(t.count(4), 1);
        t.addBorder(0, 450, 0, 9);
        due(t.count(4), 2);
    }

    static void aCoordinateAtThePositionLiesAboveIt() {
        terms(" (a coordinate at the position lies above it).");
        GainTables t = new GainTables();
        t.addBorder(0, 500, 0, 9);
        t.addBorder(1, 501, 0, 9);
        zones(t, 1, 0);
        t.removeBorder(0, 0);
        t.addBorder(0, 501, 0, 9);
        t.removeBorder(1, 0);
        t.addBorder(1, 500, 0, 9);
        zones(t, 0, 1);
        zones(Look.of("x500 9;y501 9;"), 1, 0);
    }

    static void otherCallsLeaveTheZones() {
        terms("the active zones become those");
        GainTables t = stuck();
        t.take(1);
        t.edit(0, 0, 0, 0, 5);
        t.scale(0, 0, 50);
        t.lock(0, 0, 0, 1);
        t.setOperator(0, 0, 5);
        t.setMargin(20);
        zones(t, 1, 0);
        due(t.move(370, 630), NONE);
        zones(t, 1, 0);
    }

    static void refusedCallsLeaveTheZones() {
        terms("the active zones become those");
        GainTables t = stuck();
        refuses(t, INVALID, "addBorder", 0, 0, 0, 0);
        refuses(t, ILLEGAL, "addBorder", 0, 900, 0, 0);
        refuses(t, INVALID, "removeBorder", 0, 2);
        refuses(t, INVALID, "setReach", 0, 0, 101);
        refuses(t, ILLEGAL, "restore", 0);
        Look.write(t, "q");
        refuses(t, Look.TEXT_ERROR, "load");
        zones(t, 1, 0);
    }

    private static final String STUCK = "x400 50;y600 50;x900 5;y900 5~;";

    /** Zones 1 and 0 are active because they stick; by the positions it would be 0 and 1. */
    private static GainTables stuck() {
        GainTables t = Look.of(STUCK);
        t.move(450, 549);
        t.move(360, 640);
        zones(t, 1, 0);
        return t;
    }

    private static void zones(GainTables t, int zone0, int zone1) {
        due(t.count(4), zone0);
        due(t.count(5), zone1);
    }
}
