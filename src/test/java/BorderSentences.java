/** Promises 1 to 4, each sentence by itself: a new object, addBorder, removeBorder, setReach. */
final class BorderSentences extends Sentences {
    static void aNewTableHasOneRegionAndNoBorders() {
        promise(1, "Creates a table without borders, whose one region has gains of 0, with an empty"
                + " text.");
        GainTables t = new GainTables();
        due(t.count(0), 1);
        due(t.axis(0, 0) + t.axis(1, 0), 0);
        due(t.border(0, 0, 0), NONE);
        due(t.border(1, 0, 0), NONE);
        due(t.region(0, 0, 0) + t.region(0, 0, 1) + t.region(0, 0, 2), 0);
        due(t.region(1, 0, 0), INVALID);
        due(t.region(0, 1, 0), INVALID);
        due(t.count(10), 0);
        due(t.clearText(), 0);
    }

    static void twoObjectsDoNotShareAnything() {
        promise(1, "Creates a table");
        GainTables used = Look.rich("x400 5;g1 0 0 9;");
        used.lock(0, 0, 0, 1);
        used.take(0);
        used.move(0, 0);
        used.append('x');
        GainTables t = new GainTables();
        same(Look.all(t), Look.all(new GainTables()));
        due(t.count(0), 1);
        due(t.count(9) + t.count(10) + t.count(11), 0);
        due(t.restore(0), ILLEGAL);
        t.addBorder(1, 900, 1, 7);
        due(used.axis(1, 0), 0);
    }

    static void addBorderAddsOneBorder() {
        promise(2, "Adds a border.");
        for (int axis = 0; axis <= 1; axis++) {
            GainTables t = new GainTables();
            due(t.addBorder(axis, 700, 1, 30), 0);
            due(t.axis(axis, 0), 1);
            due(t.axis(1 - axis, 0), 0);
            due(t.border(axis, 0, 0), 700);
            due(t.border(axis, 0, 1), 1);
            due(t.border(axis, 0, 2), 30);
        }
    }

    static void addBorderIsAnAction() {
        promise(2, "This is an action.");
        isAction(new GainTables(), "addBorder", 0, 500, 0, 0);
        isAction(Look.of("x500 5;g1 0 0 9;"), "addBorder", 0, 600, 1, 3);
        isAction(Look.of("y500 5;g0 1 0 9;"), "addBorder", 1, 100, 0, 3);
    }

    static void addBorderTakesTheAxes() {
        promise(2, "`axis`: 0 or 1");
        range(GainTables::new, 0, 0, 1, "addBorder", 0, 500, 0, 0);
    }

    static void addBorderTakesPositions() {
        promise(2, "`position`: 1 to 999");
        range(GainTables::new, 1, 1, 999, "addBorder", 0, 500, 0, 0);
    }

    static void addBorderTakesKinds() {
        promise(2, "`kind`: 0 sticky, 1 blending");
        range(GainTables::new, 2, 0, 1, "addBorder", 1, 500, 0, 1);
    }

    static void addBorderTakesReaches() {
        promise(2, "`reach`: 0 to 100");
        range(GainTables::new, 3, 0, 100, "addBorder", 1, 500, 0, 1);
    }

    static void addBorderTakesAtLeastOneForABlendingBorder() {
        promise(2, "; at least 1 for a blending one");
        range(GainTables::new, 3, 1, 100, "addBorder", 1, 500, 1, 1);
    }

    static void addBorderReturnsTheNumber() {
        promise(2, "Returns its number");
        GainTables t = new GainTables();
        due(t.addBorder(1, 500, 0, 0), 0);
        due(t.addBorder(1, 501, 0, 0), 1);
        due(t.addBorder(1, 499, 0, 0), 0);
        due(t.addBorder(1, 999, 0, 0), 3);
        due(t.addBorder(1, 1, 0, 0), 0);
        due(t.addBorder(1, 502, 0, 0), 4);
        due(t.addBorder(0, 502, 0, 0), 0);
    }

    static void addBorderRefusesWhatIsOutOfRange() {
        promise(2, "; INVALID_ARGUMENT if an argument is out of range");
        GainTables t = Look.of("x500 5;");
        int[][] wrong = {{-1, 600, 0, 0}, {2, 600, 0, 0}, {0, 0, 0, 0}, {0, 1000, 0, 0},
            {0, 600, -1, 1}, {0, 600, 2, 1}, {0, 600, 0, -1}, {0, 600, 0, 101}, {0, 600, 1, 0},
            {0, 600, 1, -1}, {0, 600, 1, 101}, {MIN, MIN, MIN, MIN}, {MAX, MAX, MAX, MAX}};
        for (int[] w : wrong) {
            refuses(t, INVALID, "addBorder", w);
        }
    }

    static void addBorderRefusesWhatIsOutsideOfTheAxis() {
        promise(2, ", or it would occupy coordinates outside of the axis");
        int[][] wrong = {{0, 1, 0, 2}, {0, 49, 0, 50}, {1, 99, 1, 100}, {0, 999, 1, 2},
            {1, 951, 0, 50}, {0, 901, 0, 100}};
        for (int[] w : wrong) {
            refuses(new GainTables(), INVALID, "addBorder", w);
        }
        int[][] right = {{0, 1, 0, 1}, {0, 50, 0, 50}, {1, 100, 1, 100}, {0, 999, 1, 1},
            {1, 950, 0, 50}, {0, 900, 0, 100}};
        for (int[] r : right) {
            due(new GainTables().addBorder(r[0], r[1], r[2], r[3]), 0);
        }
    }

    static void addBorderRefusesWhatIsOccupied() {
        promise(2, "; ILLEGAL_STATE if a coordinate that it would occupy is occupied");
        GainTables t = Look.of("x400 10;x500 20~;");
        int[][] wrong = {{0, 400, 0, 0}, {0, 390, 0, 0}, {0, 410, 0, 0}, {0, 480, 0, 0},
            {0, 520, 1, 1}, {0, 389, 0, 1}, {0, 411, 1, 1}, {0, 445, 0, 35}, {0, 540, 1, 20},
            {0, 450, 0, 100}};
        for (int[] w : wrong) {
            refuses(t, ILLEGAL, "addBorder", w);
        }
        due(t.addBorder(0, 445, 0, 34), 1);
        due(t.addBorder(0, 541, 1, 20), 3);
        due(t.addBorder(0, 389, 0, 0), 0);
    }

    static void addBorderRefusesASeventh() {
        promise(2, "; CAPACITY_EXCEEDED if the axis has 6 borders.");
        GainTables t = Look.of("y1 0;y2 0;y3 0;y4 0;y5 0;");
        due(t.addBorder(1, 999, 1, 1), 5);
        refuses(t, FULL, "addBorder", 1, 500, 0, 0);
        refuses(t, FULL, "addBorder", 1, 500, 1, 100);
        due(t.addBorder(0, 500, 0, 0), 0);
    }

    static void removeBorderRemovesThatBorder() {
        promise(3, "Removes a border.");
        int[] positions = {100, 200, 300, 400, 500, 600};
        for (int removed = 0; removed <= 5; removed++) {
            GainTables t = Look.of("x100 1;x200 2~;x300 3;x400 4~;x500 5;x600 6~;y700 7;");
            due(t.removeBorder(0, removed), 5);
            for (int border = 0; border <= 4; border++) {
                int had = border < removed ? border : border + 1;
                due(t.border(0, border, 0), positions[had]);
                due(t.border(0, border, 1), had % 2);
                due(t.border(0, border, 2), had + 1);
            }
            due(t.border(0, 5, 0), NONE);
            due(t.axis(1, 0), 1);
        }
    }

    static void aRemovedBorderOccupiesNothing() {
        promise(3, "Removes a border.");
        GainTables t = Look.of("x100 50;x300 50~;");
        due(t.removeBorder(0, 1), 1);
        due(t.addBorder(0, 300, 0, 100), 1);
        due(t.removeBorder(0, 0), 1);
        due(t.addBorder(0, 100, 0, 99), 0);
    }

    static void removeBorderIsAnAction() {
        promise(3, "This is an action.");
        isAction(Look.of("x500 5;g0 0 0 4;g1 0 0 9;"), "removeBorder", 0, 0);
        isAction(Look.of("y300 1~;y500 5;g0 0 0 4;g0 1 0 9;g0 2 1 3;"), "removeBorder", 1, 1);
    }

    static void removeBorderTakesTheAxes() {
        promise(3, "`axis`: 0 or 1");
        range(() -> Look.of("x500 5;y500 5;"), 0, 0, 1, "removeBorder", 0, 0);
    }

    static void removeBorderTakesTheBordersOfTheAxis() {
        promise(3, "`border`: a border of the axis");
        range(() -> Look.of("x100 5;x200 5;x300 5;y500 5;"), 1, 0, 2, "removeBorder", 0, 0);
        range(() -> Look.of("x100 5;x200 5;x300 5;y500 5;"), 1, 0, 0, "removeBorder", 1, 0);
    }

    static void removeBorderReturnsHowManyAreLeft() {
        promise(3, "Returns the number of borders of the axis then");
        GainTables t = Look.of("x1 0;x2 0;x3 0;x4 0;x5 0;x6 0;y7 0;y8 0;");
        for (int left = 5; left >= 0; left--) {
            due(t.removeBorder(0, left / 2), left);
        }
        due(t.removeBorder(1, 0), 1);
        due(t.removeBorder(1, 0), 0);
    }

    static void removeBorderRefusesWhatIsOutOfRange() {
        promise(3, "; INVALID_ARGUMENT if an argument is out of range.");
        refuses(new GainTables(), INVALID, "removeBorder", 0, 0);
        refuses(new GainTables(), INVALID, "removeBorder", 1, 0);
        GainTables t = Look.of("x1 0;x2 0;");
        int[][] wrong = {{0, 2}, {0, -1}, {1, 0}, {-1, 0}, {2, 0}, {MAX, MAX}, {MIN, MIN}};
        for (int[] w : wrong) {
            refuses(t, INVALID, "removeBorder", w);
        }
    }

    static void setReachSetsTheReachAlone() {
        promise(4, "Sets the reach of a border.");
        GainTables t = Look.of("x100 1;x300 2~;y300 3;");
        due(t.setReach(0, 1, 90), 2);
        due(t.border(0, 1, 0), 300);
        due(t.border(0, 1, 1), 1);
        due(t.border(0, 1, 2), 90);
        due(t.border(0, 0, 2), 1);
        due(t.border(1, 0, 2), 3);
        t.move(345, 0);
        due(t.axis(0, 4), 135);
        due(t.axis(0, 5), 180);
    }

    static void setReachIsAnAction() {
        promise(4, "This is an action.");
        isAction(Look.of("x500 5;"), "setReach", 0, 0, 100);
        isAction(Look.of("y500 5~;"), "setReach", 1, 0, 1);
        isAction(Look.of("x500 5;"), "setReach", 0, 0, 5);
    }

    static void setReachTakesTheAxes() {
        promise(4, "`axis`: 0 or 1");
        range(() -> Look.of("x500 5;y500 5;"), 0, 0, 1, "setReach", 0, 0, 7);
    }

    static void setReachTakesTheBordersOfTheAxis() {
        promise(4, "`border`: a border of the axis");
        range(() -> Look.of("x100 5;x200 5;x300 5;y500 5;"), 1, 0, 2, "setReach", 0, 0, 7);
        refuses(new GainTables(), INVALID, "setReach", 0, 0, 0);
    }

    static void setReachTakesReachesAsAddBorderDoes() {
        promise(4, "`reach`: as for addBorder()");
        range(() -> Look.of("x500 5;"), 2, 0, 100, "setReach", 0, 0, 5);
        range(() -> Look.of("x500 5~;"), 2, 1, 100, "setReach", 0, 0, 5);
    }

    static void setReachReturnsThePreviousReach() {
        promise(4, "Returns the previous reach");
        GainTables t = Look.of("x500 5;");
        int previous = 5;
        for (int reach : new int[] {0, 0, 100, 1, 99, 100}) {
            due(t.setReach(0, 0, reach), previous);
            due(t.border(0, 0, 2), reach);
            previous = reach;
        }
    }

    static void setReachRefusesWhatIsOutOfRange() {
        promise(4, "; INVALID_ARGUMENT if an argument is out of range");
        GainTables t = Look.of("x500 5;x700 5~;");
        int[][] wrong = {{-1, 0, 5}, {2, 0, 5}, {0, -1, 5}, {0, 2, 5}, {1, 0, 5}, {0, 0, -1},
            {0, 0, 101}, {0, 1, 0}, {0, 1, 101}, {MAX, MAX, MAX}, {MIN, MIN, MIN}};
        for (int[] w : wrong) {
            refuses(t, INVALID, "setReach", w);
        }
    }

    static void setReachRefusesWhatIsOutsideOfTheAxis() {
        promise(4, ", or it would occupy coordinates outside of the axis");
        for (int distance : new int[] {1, 50, 99}) {
            GainTables t = new GainTables();
            t.addBorder(0, distance, 0, 0);
            t.addBorder(1, 1000 - distance, 1, 1);
            refuses(t, INVALID, "setReach", 0, 0, distance + 1);
            refuses(t, INVALID, "setReach", 1, 0, distance + 1);
            due(t.setReach(0, 0, distance), 0);
            due(t.setReach(1, 0, distance), 1);
        }
    }

    static void setReachRefusesWhatAnotherBorderOccupies() {
        promise(4, "; ILLEGAL_STATE if a coordinate that it would occupy is occupied by another"
                + " border.");
        GainTables t = Look.of("x400 10;x460 20~;x520 5;");
        refuses(t, ILLEGAL, "setReach", 0, 0, 40);
        due(t.setReach(0, 0, 39), 10);
        refuses(t, ILLEGAL, "setReach", 0, 1, 21);
        due(t.setReach(0, 0, 0), 39);
        refuses(t, ILLEGAL, "setReach", 0, 1, 55);
        due(t.setReach(0, 1, 54), 20);
        refuses(t, ILLEGAL, "setReach", 0, 2, 6);
        refuses(t, ILLEGAL, "setReach", 0, 2, 100);
    }

    static void setReachDoesNotMindItsOwnCoordinates() {
        promise(4, " is occupied by another border.");
        GainTables t = Look.of("x400 10;y400 90;");
        due(t.setReach(0, 0, 10), 10);
        due(t.setReach(0, 0, 9), 10);
        due(t.setReach(0, 0, 100), 9);
    }
}
