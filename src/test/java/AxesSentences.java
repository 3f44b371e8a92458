/** The terms of axes, borders and regions, each sentence by itself. */
final class AxesSentences extends Sentences {
    private static final int[] NO_AXES = {-1, 2, MIN, MAX};

    static void divisionRoundsDown() {
        terms("All numbers are whole; \"/\" is the division rounded down.");
        GainTables t = Look.rich("x500 1~;g1 0 0 1;g1 0 1 3;g1 0 2 4;");
        due(t.gain(0, 0), 0);
        due(t.gain(1, 0), 1);
        due(t.gain(2, 0), 2);
        due(t.scale(0, 1, 33), 2);
        due(t.region(1, 0, 1), 0);
        due(t.scale(0, 2, 49), 2);
        due(t.region(1, 0, 2), 1);
    }

    static void axisZeroIsColumnsAndAxisOneIsRows() {
        terms("There are two axes, 0 (columns) and 1 (rows)");
        GainTables t = Look.of("x300 1;y400 2;y600 3;");
        due(t.axis(0, 0), 1);
        due(t.axis(1, 0), 2);
        due(t.region(1, 2, 0), 0);
        due(t.region(2, 1, 0), INVALID);
        due(t.move(0, 1000), 0);
        due(t.axis(0, 2), 0);
        due(t.axis(1, 2), 2);
    }

    static void thereAreOnlyTwoAxes() {
        terms("There are two axes");
        GainTables t = Look.of("x300 1;y400 2;y600 3;");
        for (int axis : NO_AXES) {
            refuses(t, INVALID, "addBorder", axis, 500, 0, 1);
            refuses(t, INVALID, "removeBorder", axis, 0);
            refuses(t, INVALID, "setReach", axis, 0, 1);
            refuses(t, INVALID, "sweep", axis, 0, 5);
            refuses(t, INVALID, "axis", axis, 0);
            refuses(t, INVALID, "border", axis, 0, 0);
            refuses(t, INVALID, "chatter", axis, 500, 1, 1);
            refuses(t, INVALID, "calmReach", axis, 0, 1);
            refuses(t, INVALID, "steepest", axis, 0, 0);
        }
    }

    static void coordinatesGoFromZeroToThousand() {
        terms("; on each, a coordinate goes from 0 to 1000.");
        for (int axis = 0; axis <= 1; axis++) {
            range(GainTables::new, axis, 0, 1000, "move", 500, 500);
            range(GainTables::new, axis, 0, 1000, "effect", 500, 500);
            range(GainTables::new, axis, 0, 1000, "valueAt", 500, 500, 0);
            range(GainTables::new, 1, 0, 1000, "sweep", axis, 9, 7);
            range(GainTables::new, 1, 0, 1000, "chatter", axis, 9, 0, 7);
        }
        GainTables t = new GainTables();
        due(t.move(0, 1000), 0);
        due(t.count(2), 0);
        due(t.count(3), 1000);
    }

    static void sixBordersFitOnAnAxis() {
        terms("An axis has at most 6 borders");
        GainTables t = new GainTables();
        for (int axis = 0; axis <= 1; axis++) {
            for (int border = 0; border < 6; border++) {
                due(t.addBorder(axis, 100 + 100 * border, border % 2, 1), border);
            }
        }
        due(t.count(0), 49);
        for (int axis = 0; axis <= 1; axis++) {
            refuses(t, FULL, "addBorder", axis, 800, 0, 1);
            refuses(t, FULL, "addBorder", axis, 50, 1, 1);
            due(t.axis(axis, 0), 6);
        }
    }

    static void sixBordersFitOnAnAxisOfAText() {
        terms("An axis has at most 6 borders");
        due(Look.read(new GainTables(), "x1 0;x2 0;x3 0;x4 0;x5 0;x6 0;y7 0;"), 7);
        due(Look.read(new GainTables(), "x1 0;x2 0;x3 0;x4 0;x5 0;x6 0;x7 0;"), Look.TEXT_ERROR - 30);
        due(Look.read(new GainTables(), "y1 0;y2 0;y3 0;y4 0;y5 0;y6 0;y7 0;"), Look.TEXT_ERROR - 30);
    }

    static void aRemovedBorderMakesRoomForASixthAgain() {
        terms("An axis has at most 6 borders");
        for (int removed = 0; removed < 6; removed++) {
            GainTables t = Look.of("y100 0;y200 0;y300 0;y400 0;y500 0;y600 0;");
            due(t.addBorder(1, 50, 0, 0), FULL);
            due(t.removeBorder(1, removed), 5);
            due(t.addBorder(1, 50, 0, 0), 0);
            due(t.addBorder(1, 40, 0, 0), FULL);
        }
    }

    static void bordersAreNumberedByAscendingPositions() {
        terms(", numbered from 0 by ascending positions.");
        int[] positions = {500, 300, 700, 100, 900, 600};
        int[] numbers = {0, 0, 2, 0, 4, 3};
        int[] ascending = {100, 300, 500, 600, 700, 900};
        for (int axis = 0; axis <= 1; axis++) {
            GainTables t = new GainTables();
            for (int i = 0; i < 6; i++) {
                due(t.addBorder(axis, positions[i], 1, 1 + i), numbers[i]);
            }
            int[] reaches = {4, 2, 1, 6, 3, 5};
            for (int border = 0; border < 6; border++) {
                due(t.border(axis, border, 0), ascending[border]);
                due(t.border(axis, border, 2), reaches[border]);
            }
        }
    }

    static void positionsGoFromOneTo999() {
        terms("A border has a position from 1 to 999");
        for (int axis = 0; axis <= 1; axis++) {
            range(GainTables::new, 1, 1, 999, "addBorder", axis, 500, 0, 0);
            range(GainTables::new, 1, 1, 999, "addBorder", axis, 500, 1, 1);
        }
        GainTables t = Look.of("x1 0;x999 0;");
        due(t.border(0, 0, 0), 1);
        due(t.border(0, 1, 0), 999);
        due(Look.read(t, "x0 0;"), Look.TEXT_ERROR - 1);
        due(Look.read(t, "x1000 0;"), Look.TEXT_ERROR - 1);
    }

    static void kindsAreStickyAndBlending() {
        terms(", a kind, 0 sticky or 1 blending");
        range(GainTables::new, 2, 0, 1, "addBorder", 0, 500, 0, 5);
        GainTables t = new GainTables();
        t.addBorder(0, 500, 0, 5);
        due(t.border(0, 0, 1), 0);
        due(t.axis(0, 1), 2);
        due(t.axis(0, 5), 1);
        GainTables blending = new GainTables();
        blending.addBorder(0, 500, 1, 5);
        due(blending.border(0, 0, 1), 1);
        due(blending.axis(0, 1), 1);
        due(blending.axis(0, 5), 10);
    }

    static void reachesGoFromZeroToHundred() {
        terms(", and a reach from 0 to 100");
        range(GainTables::new, 3, 0, 100, "addBorder", 0, 500, 0, 5);
        range(() -> Look.of("x500 5;"), 2, 0, 100, "setReach", 0, 0, 5);
        due(Look.read(new GainTables(), "x500 0;y500 100;"), 2);
        due(Look.read(new GainTables(), "x500 101;"), Look.TEXT_ERROR - 5);
    }

    static void blendingReachesBeginWithOne() {
        terms(" (1 to 100 for a blending one).");
        range(GainTables::new, 3, 1, 100, "addBorder", 0, 500, 1, 5);
        range(() -> Look.of("x500 5~;"), 2, 1, 100, "setReach", 0, 0, 5);
        due(Look.read(new GainTables(), "x500 1~;y500 100~;"), 2);
        due(Look.read(new GainTables(), "x500 0~;"), Look.TEXT_ERROR);
        due(Look.read(new GainTables(), "x500 101~;"), Look.TEXT_ERROR - 5);
    }

    static void aBorderOccupiesFromPositionMinusReachToPositionPlusReach() {
        terms("It occupies the coordinates from its position minus its reach to its position plus"
                + " its reach");
        for (int kind = 0; kind <= 1; kind++) {
            for (int position = 480; position <= 520; position++) {
                GainTables t = new GainTables();
                t.addBorder(0, 500, kind, 10);
                boolean occupied = position >= 490 && position <= 510;
                due(t.addBorder(0, position, 0, 0), occupied ? ILLEGAL : position < 500 ? 0 : 1);
            }
        }
    }

    static void aBorderWithReachZeroOccupiesItsPositionAlone() {
        terms("It occupies the coordinates from its position minus its reach to its position plus"
                + " its reach");
        GainTables t = Look.of("y500 0;");
        due(t.addBorder(1, 500, 0, 0), ILLEGAL);
        due(t.addBorder(1, 499, 0, 0), 0);
        due(t.addBorder(1, 501, 0, 0), 2);
    }

    static void whatBordersOccupyLiesInTheAxis() {
        terms("; these lie from 0 to 1000");
        for (int reach = 1; reach <= 100; reach++) {
            for (int kind = 0; kind <= 1; kind++) {
                refuses(new GainTables(), INVALID, "addBorder", kind, reach - 1, kind, reach);
                refuses(new GainTables(), INVALID, "addBorder", kind, 1001 - reach, kind, reach);
                GainTables t = new GainTables();
                due(t.addBorder(kind, reach, kind, reach), 0);
                due(t.addBorder(kind, 1000 - reach, kind, reach), 1);
            }
        }
    }

    static void theAxisEndsForSetReachToo() {
        terms("; these lie from 0 to 1000");
        GainTables t = Look.of("x40 1;x950 1~;");
        due(t.setReach(0, 0, 40), 1);
        refuses(t, INVALID, "setReach", 0, 0, 41);
        due(t.setReach(0, 1, 50), 1);
        refuses(t, INVALID, "setReach", 0, 1, 51);
    }

    static void theAxisEndsForTextsToo() {
        terms("; these lie from 0 to 1000");
        due(Look.read(new GainTables(), "x40 40;y960 40~;"), 2);
        due(Look.read(new GainTables(), " x40 41;"), Look.TEXT_ERROR - 1);
        due(Look.read(new GainTables(), " y960 41~;"), Look.TEXT_ERROR - 1);
    }

    static void noTwoBordersOccupyTheSameCoordinate() {
        terms(", and no two borders of an axis occupy the same coordinate.");
        for (int kind = 0; kind <= 1; kind++) {
            for (int reach = kind; reach <= 20; reach++) {
                GainTables t = Look.of("x500 10;");
                refuses(t, ILLEGAL, "addBorder", 0, 510 + reach, kind, reach);
                refuses(t, ILLEGAL, "addBorder", 0, 490 - reach, kind, reach);
                refuses(t, ILLEGAL, "addBorder", 0, 500, kind, reach);
                due(t.addBorder(0, 511 + reach, kind, reach), 1);
                due(t.addBorder(0, 489 - reach, kind, reach), 0);
            }
        }
    }

    static void bordersOfTheOtherAxisDoNotMatter() {
        terms(", and no two borders of an axis occupy the same coordinate.");
        GainTables t = Look.of("x500 10;");
        due(t.addBorder(1, 500, 0, 10), 0);
        due(t.addBorder(1, 521, 1, 10), 1);
        due(t.addBorder(0, 521, 1, 10), 1);
        due(t.setReach(1, 0, 0), 10);
        due(t.setReach(0, 0, 9), 10);
    }

    static void bordersPartAnAxisIntoOneMoreStrips() {
        terms("The n borders of an axis part it into n + 1 strips, numbered from 0.");
        for (int axis = 0; axis <= 1; axis++) {
            GainTables t = new GainTables();
            for (int n = 0; n <= 6; n++) {
                due(t.count(0), n + 1);
                due(strip(t, axis, -1), INVALID);
                due(strip(t, axis, 0), 0);
                due(strip(t, axis, n), 0);
                due(strip(t, axis, n + 1), INVALID);
                t.addBorder(axis, 900 - 100 * n, n % 2, 1);
            }
        }
    }

    private static int strip(GainTables t, int axis, int strip) {
        return axis == 0 ? t.region(strip, 0, 0) : t.region(0, strip, 0);
    }

    static void regionsAreWhereStripsMeet() {
        terms("A region is where a strip of the axis 0 (its column) and a strip of the axis 1 (its"
                + " row) meet.");
        GainTables t = Look.rich("x100 0;x200 0;x300 0;x400 0;x500 0;x600 0;"
                + "y150 0;y250 0;y350 0;y450 0;y550 0;y650 0;");
        for (int column = 0; column <= 6; column++) {
            for (int row = 0; row <= 6; row++) {
                due(t.edit(0, column, row, 1, 10 * column + row + 1), 0);
            }
        }
        for (int column = 0; column <= 6; column++) {
            for (int row = 0; row <= 6; row++) {
                due(t.region(column, row, 1), 10 * column + row + 1);
                due(t.valueAt(50 + 100 * column, 100 + 100 * row, 1), 10 * column + row + 1);
            }
        }
    }

    static void regionsHaveThreeGains() {
        terms("Each region has three gains, 0, 1 and 2");
        GainTables t = Look.of("x500 0;");
        for (int gain = 0; gain <= 2; gain++) {
            due(t.edit(0, 1, 0, gain, 7 + gain), 0);
        }
        for (int gain = 0; gain <= 2; gain++) {
            due(t.region(1, 0, gain), 7 + gain);
            due(t.region(0, 0, gain), 0);
            due(t.gain(gain, 0), 7 + gain);
        }
        for (int gain : new int[] {-1, 3, MIN, MAX}) {
            refuses(t, INVALID, "edit", 0, 1, 0, gain, 5);
            refuses(t, INVALID, "scale", 0, gain, 5);
            refuses(t, INVALID, "gain", gain, 0);
            refuses(t, INVALID, "refusal", 0, 1, 0, gain, 5);
            refuses(t, INVALID, "valueAt", 0, 0, gain);
            refuses(t, INVALID, "steepest", 0, gain, 0);
        }
    }

    static void gainsGoFromZeroTo9999() {
        terms(", each from 0 to 9999 (at first 0)");
        GainTables t = Look.rich("");
        due(t.region(0, 0, 0) + t.region(0, 0, 1) + t.region(0, 0, 2), 0);
        refuses(t, INVALID, "edit", 0, 0, 0, 0, -1);
        refuses(t, INVALID, "edit", 0, 0, 0, 0, 10000);
        due(t.edit(0, 0, 0, 0, 9999), 0);
        due(t.region(0, 0, 0), 9999);
        due(t.edit(0, 0, 0, 0, 0), 9999);
        due(t.region(0, 0, 0), 0);
        due(Look.read(t, "g0 0 0 9999;"), 1);
        due(Look.read(t, "g0 0 0 10000;"), Look.TEXT_ERROR - 7);
        due(t.scale(0, 0, 101), 1);
        due(t.region(0, 0, 0), 9999);
    }

    static void regionsHaveALock() {
        terms(", and a lock: NONE, or an operator.");
        GainTables t = Look.of("x500 0;");
        due(t.region(0, 0, 3), NONE);
        due(t.region(1, 0, 3), NONE);
        for (int operator = 0; operator <= 2; operator++) {
            t.lock(operator, 1, 0, 1);
            due(t.region(1, 0, 3), operator);
            due(t.region(0, 0, 3), NONE);
            t.lock(operator, 1, 0, 0);
            due(t.region(1, 0, 3), NONE);
        }
    }

    /** Right behind a border, right ahead of one, and at the ends of the axis. */
    static void anAddedBorderMakesItsStripTwo() {
        terms("When a border is added, the strip in which its position lies becomes two");
        int[] positions = {1, 299, 301, 599, 601, 999};
        int[] strips = {0, 0, 1, 1, 2, 2};
        for (int i = 0; i < positions.length; i++) {
            GainTables t = Look.of("x300 0;x600 0;g0 0 0 5;g1 0 0 6;g2 0 0 7;");
            due(t.addBorder(0, positions[i], 0, 0), strips[i]);
            due(t.count(0), 4);
            for (int strip = 0; strip <= 3; strip++) {
                due(t.region(strip, 0, 0), 5 + (strip > strips[i] ? strip - 1 : strip));
            }
        }
    }

    static void bothStripsHaveTheGainsThatTheStripHad() {
        terms("; the regions of both have the gains and locks that the strip had.");
        for (int strip = 0; strip <= 2; strip++) {
            for (int axis = 0; axis <= 1; axis++) {
                GainTables t = nineRegions();
                due(t.addBorder(axis, 200 + 200 * strip, 1, 1), strip);
                for (int a = 0; a <= 3; a++) {
                    for (int b = 0; b <= 2; b++) {
                        int had = a > strip ? a - 1 : a;
                        int gain = axis == 0 ? 10 * had + b : 10 * b + had;
                        due(axis == 0 ? t.region(a, b, 2) : t.region(b, a, 2), gain + 1);
                    }
                }
            }
        }
    }

    static void bothStripsHaveTheLocksThatTheStripHad() {
        terms("; the regions of both have the gains and locks that the strip had.");
        for (int axis = 0; axis <= 1; axis++) {
            GainTables t = nineRegions();
            t.lock(2, 1, 1, 1);
            t.lock(0, 2, 2, 1);
            due(t.addBorder(axis, 350, 0, 0), 1);
            int[] lock = {NONE, 2, 2, NONE};
            for (int strip = 0; strip <= 3; strip++) {
                due(axis == 0 ? t.region(strip, 1, 3) : t.region(1, strip, 3), lock[strip]);
            }
            due(axis == 0 ? t.region(3, 2, 3) : t.region(2, 3, 3), 0);
            due(t.operator(2, 2), 2);
            due(t.operator(0, 2), 1);
            due(t.operator(1, 2), 0);
        }
    }

    static void aRemovedBorderMakesTwoStripsOne() {
        terms("When a border is removed, the strips on both sides of it become one");
        for (int border = 0; border <= 1; border++) {
            for (int axis = 0; axis <= 1; axis++) {
                GainTables t = nineRegions();
                due(t.removeBorder(axis, border), 1);
                due(t.count(0), 6);
                due(t.border(axis, 0, 0), border == 0 ? 500 : 300);
                due(t.border(axis, 1, 0), NONE);
            }
        }
    }

    static void theOneStripHasTheGainsOfTheLowerOne() {
        terms(", whose regions have the gains and locks of the lower one.");
        for (int border = 0; border <= 1; border++) {
            for (int axis = 0; axis <= 1; axis++) {
                GainTables t = nineRegions();
                t.removeBorder(axis, border);
                for (int a = 0; a <= 1; a++) {
                    for (int b = 0; b <= 2; b++) {
                        int had = a > border ? a + 1 : a;
                        int gain = axis == 0 ? 10 * had + b : 10 * b + had;
                        due(axis == 0 ? t.region(a, b, 2) : t.region(b, a, 2), gain + 1);
                    }
                }
            }
        }
    }

    static void theOneStripHasTheLocksOfTheLowerOne() {
        terms(", whose regions have the gains and locks of the lower one.");
        GainTables t = nineRegions();
        t.lock(0, 0, 0, 1);
        t.lock(1, 1, 0, 1);
        t.lock(2, 1, 1, 1);
        t.lock(2, 2, 1, 1);
        due(t.removeBorder(0, 0), 1);
        due(t.region(0, 0, 3), 0);
        due(t.region(0, 1, 3), NONE);
        due(t.region(1, 0, 3), NONE);
        due(t.region(1, 1, 3), 2);
        due(t.operator(1, 2), 0);
        due(t.operator(2, 2), 1);
        due(t.removeBorder(1, 0), 1);
        due(t.region(0, 0, 3), 0);
        due(t.region(1, 0, 3), NONE);
        due(t.operator(2, 2), 0);
    }

    /** What the upper strip had does not come back when a border is added again. */
    static void whatTheUpperStripHadIsGone() {
        terms(", whose regions have the gains and locks of the lower one.");
        for (int axis = 0; axis <= 1; axis++) {
            GainTables t = nineRegions();
            t.lock(1, 2, 2, 1);
            due(t.removeBorder(axis, 1), 1);
            due(t.addBorder(axis, 500, 1, 3), 1);
            for (int other = 0; other <= 2; other++) {
                int gain = axis == 0 ? 10 + other : 10 * other + 1;
                due(axis == 0 ? t.region(2, other, 2) : t.region(other, 2, 2), gain + 1);
                due(axis == 0 ? t.region(2, other, 3) : t.region(other, 2, 3), NONE);
            }
        }
    }

    /** Columns and rows parted at 300 and 500; gain 2 is 10 * column + row + 1. */
    private static GainTables nineRegions() {
        return Look.of("x300 2;x500 3~;y300 2;y500 3;g0 0 2 1;g0 1 2 2;g0 2 2 3;g1 0 2 11;g1 1 2 12;"
                + "g1 2 2 13;g2 0 2 21;g2 1 2 22;g2 2 2 23;");
    }
}
