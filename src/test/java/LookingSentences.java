/** Promises 18 to 25: count, axis, border, region, operator, account, gain, trail. */
final class LookingSentences extends Sentences {
    private static final String TABLE = "x400 50;x700 20~;y500 40~;g1 0 0 100;g1 1 0 900;g2 0 2 7;";
    private static final String FULL_TABLE = "x1 0;x2 0;x3 0;x4 0;x5 0;x6 0;"
            + "y1 0;y2 0;y3 0;y4 0;y5 0;y6 0;";

    static void countReturnsANumber() {
        promise(18, "Returns a number.");
        GainTables t = new GainTables();
        int[] due = {1, 0, 500, 500, 0, 0, 0, 0, 0, 0, 0, 0};
        for (int what = 0; what <= 11; what++) {
            due(t.count(what), due[what]);
        }
    }

    static void countOfRegions() {
        promise(18, "`what`: 0 the number of regions");
        due(new GainTables().count(0), 1);
        due(Look.of("x5 0;x6 0;").count(0), 3);
        due(Look.of("y5 0;x6 0;").count(0), 4);
        due(Look.of(FULL_TABLE).count(0), 49);
    }

    static void countOfTheMarginAndThePoint() {
        promise(18, ", 1 the dead margin, 2 and 3 the coordinates of the point");
        GainTables t = new GainTables();
        t.setMargin(50);
        t.move(0, 1000);
        due(t.count(1), 50);
        due(t.count(2), 0);
        due(t.count(3), 1000);
    }

    static void countOfTheActiveZones() {
        promise(18, ", 4 and 5 the active zones");
        GainTables t = Look.of(FULL_TABLE);
        due(t.count(4) * 10 + t.count(5), 66);
        t.move(0, 4);
        due(t.count(4), 0);
        due(t.count(5), 4);
    }

    static void countOfTheTrailAndTheMoves() {
        promise(18, ", 6 the entries in the trail, 7 the moves that were ignored so far, 8 the moves"
                + " that were not");
        GainTables t = new GainTables();
        for (int i = 1; i <= 23; i++) {
            t.move(i, i);
        }
        due(t.count(6), 20);
        due(t.count(7), 0);
        due(t.count(8), 23);
        t.setMargin(10);
        t.move(20, 20);
        t.sweep(0, 40, 5);
        due(t.count(6), 20);
        due(t.count(7), 4);
        due(t.count(8), 24);
    }

    static void countOfTheHistoryTheTextAndThePlaces() {
        promise(18, ", 9 the states in the history, 10 the length of the text, 11 the places with a"
                + " snapshot");
        GainTables t = new GainTables();
        Look.write(t, " ".repeat(160));
        due(t.count(10), 160);
        due(t.count(9), 0);
        for (int i = 1; i <= 3; i++) {
            t.take(3 - i);
            due(t.count(11), i);
            due(t.count(9), i);
        }
        t.take(0);
        t.take(1);
        t.take(1);
        due(t.count(11), 3);
        due(t.count(9), 5);
        t.undo();
        due(t.count(9), 4);
    }

    static void countRefusesWhatIsOutOfRange() {
        promise(18, "Returns the number; INVALID_ARGUMENT if what is out of range.");
        range(GainTables::new, 0, 0, 11, "count", 0);
        for (int what : new int[] {-1, 12, 13, MIN, MAX}) {
            refuses(Look.of(TABLE), INVALID, "count", what);
        }
    }

    static void axisReturnsAProperty() {
        promise(19, "Returns a property of an axis.");
        for (int axis = 0; axis <= 1; axis++) {
            int[] due = {0, 1, 0, 0, 0, 1};
            for (int what = 0; what <= 5; what++) {
                due(new GainTables().axis(axis, what), due[what]);
            }
        }
    }

    static void axisTakesTheAxes() {
        promise(19, "`axis`: 0 or 1");
        range(() -> Look.of(TABLE), 0, 0, 1, "axis", 0, 3);
    }

    static void axisTellsBordersAndZones() {
        promise(19, "`what`: 0 the number of its borders, 1 the number of its zones");
        GainTables t = Look.of(TABLE);
        due(t.axis(0, 0), 2);
        due(t.axis(0, 1), 2);
        due(t.axis(1, 0), 1);
        due(t.axis(1, 1), 1);
        GainTables full = Look.of(FULL_TABLE);
        due(full.axis(0, 0) + full.axis(1, 0), 12);
        due(full.axis(0, 1) + full.axis(1, 1), 14);
    }

    static void axisTellsTheStripsAtThePoint() {
        promise(19, ", 2 the low strip, 3 the high strip");
        GainTables t = Look.of(TABLE);
        int[] places = {0, 449, 450, 679, 680, 720, 721, 350, 349};
        int[] low = {0, 0, 1, 1, 1, 1, 2, 1, 0};
        int[] high = {0, 0, 1, 1, 2, 2, 2, 1, 0};
        for (int i = 0; i < places.length; i++) {
            t.move(places[i], 540);
            due(t.axis(0, 2), low[i]);
            due(t.axis(0, 3), high[i]);
            due(t.axis(1, 2), 0);
            due(t.axis(1, 3), 1);
        }
    }

    static void axisTellsTheWeightAtThePoint() {
        promise(19, ", 4 the numerator and 5 the denominator of the weight, at the point");
        GainTables t = Look.of(TABLE);
        int[][] due = {{459, 0, 1}, {460, 0, 80}, {500, 40, 80}, {540, 80, 80}, {541, 0, 1}};
        for (int[] d : due) {
            t.move(700, d[0]);
            due(t.axis(1, 4), d[1]);
            due(t.axis(1, 5), d[2]);
            due(t.axis(0, 4), 20);
            due(t.axis(0, 5), 40);
        }
        due(t.effect(680, 0), 9);
        due(t.valueAt(680, 0, 0), 100);
        due(t.axis(0, 4), 20);
    }

    static void axisRefusesWhatIsOutOfRange() {
        promise(19, "Returns the property; INVALID_ARGUMENT if an argument is out of range.");
        range(() -> Look.of(TABLE), 1, 0, 5, "axis", 0, 3);
        int[][] wrong = {{-1, 0}, {2, 0}, {0, -1}, {1, 6}, {MIN, MIN}, {MAX, MAX}};
        for (int[] w : wrong) {
            refuses(Look.of(TABLE), INVALID, "axis", w);
        }
    }

    static void borderReturnsAProperty() {
        promise(20, "Returns a property of a border.");
        GainTables t = Look.of(TABLE);
        int[][] due = {{0, 0, 400, 0, 50}, {0, 1, 700, 1, 20}, {1, 0, 500, 1, 40}};
        for (int[] d : due) {
            for (int what = 0; what <= 2; what++) {
                due(t.border(d[0], d[1], what), d[2 + what]);
            }
        }
    }

    static void borderTakesTheAxes() {
        promise(20, "`axis`: 0 or 1");
        range(() -> Look.of(TABLE), 0, 0, 1, "border", 0, 0, 0);
        range(GainTables::new, 0, 0, 1, "border", 0, 0, 0);
    }

    static void borderZeroIsTheLowestOne() {
        promise(20, "`border`: 0 for the lowest one");
        GainTables t = Look.of("x900 0;x1 0;x500 0;");
        due(t.border(0, 0, 0), 1);
        due(t.border(0, 1, 0), 500);
        due(t.border(0, 2, 0), 900);
    }

    static void borderTellsPositionKindAndReach() {
        promise(20, "`what`: 0 its position, 1 its kind, 2 its reach");
        range(() -> Look.of(TABLE), 2, 0, 2, "border", 0, 1, 0);
        GainTables t = Look.of("x900 100~;y1 0;");
        due(t.border(0, 0, 0), 900);
        due(t.border(0, 0, 1), 1);
        due(t.border(0, 0, 2), 100);
        due(t.border(1, 0, 0), 1);
        due(t.border(1, 0, 1), 0);
        due(t.border(1, 0, 2), 0);
    }

    static void borderRefusesWhatIsOutOfRange() {
        promise(20, "Returns the property; INVALID_ARGUMENT if axis or what is out of range");
        int[][] wrong = {{-1, 0, 0}, {2, 0, 0}, {0, 0, -1}, {0, 0, 3}, {2, 9, 0}, {0, 9, 3},
            {MIN, 0, 0}, {MAX, 0, 0}, {0, 0, MIN}, {0, 0, MAX}};
        for (int[] w : wrong) {
            refuses(Look.of(TABLE), INVALID, "border", w);
        }
    }

    static void borderRefusesNegativeBorders() {
        promise(20, " or border is negative");
        for (int border : new int[] {-1, -2, MIN}) {
            refuses(Look.of(TABLE), INVALID, "border", 0, border, 0);
            refuses(new GainTables(), INVALID, "border", 1, border, 2);
        }
    }

    static void borderReturnsNoneIfThereAreNotSoMany() {
        promise(20, "; NONE if there are not so many.");
        GainTables t = Look.of(TABLE);
        for (int what = 0; what <= 2; what++) {
            due(t.border(0, 2, what), NONE);
            due(t.border(1, 1, what), NONE);
            due(t.border(0, 6, what), NONE);
            due(t.border(0, MAX, what), NONE);
            due(new GainTables().border(0, 0, what), NONE);
            due(Look.of(FULL_TABLE).border(1, 6, what), NONE);
        }
        due(Look.of(FULL_TABLE).border(1, 5, 0), 6);
        t.removeBorder(0, 1);
        due(t.border(0, 1, 0), NONE);
    }

    static void regionReturnsAProperty() {
        promise(21, "Returns a property of a region.");
        GainTables t = Look.of(TABLE);
        due(t.region(1, 0, 0), 100);
        due(t.region(1, 1, 0), 900);
        due(t.region(2, 0, 2), 7);
        due(t.region(0, 0, 0) + t.region(2, 1, 2) + t.region(1, 0, 1), 0);
    }

    static void regionTakesColumns() {
        promise(21, "`column`: a strip of the axis 0");
        range(() -> Look.of(TABLE), 0, 0, 2, "region", 0, 0, 0);
        range(() -> Look.of(FULL_TABLE), 0, 0, 6, "region", 0, 0, 0);
        range(GainTables::new, 0, 0, 0, "region", 0, 0, 0);
    }

    static void regionTakesRows() {
        promise(21, "`row`: a strip of the axis 1");
        range(() -> Look.of(TABLE), 1, 0, 1, "region", 0, 0, 0);
        range(() -> Look.of(FULL_TABLE), 1, 0, 6, "region", 0, 0, 0);
        range(GainTables::new, 1, 0, 0, "region", 0, 0, 0);
    }

    static void regionTellsGainsAndLock() {
        promise(21, "`what`: 0 to 2 its gains, 3 the operator that has its lock (NONE if it is free)");
        GainTables t = Look.of("x500 1;g1 0 0 9999;g1 0 1 8;g1 0 2 7;");
        t.lock(0, 1, 0, 1);
        int[] due = {9999, 8, 7, 0};
        for (int what = 0; what <= 3; what++) {
            due(t.region(1, 0, what), due[what]);
            due(t.region(0, 0, what), what == 3 ? NONE : 0);
        }
    }

    static void regionRefusesWhatIsOutOfRange() {
        promise(21, "Returns the property; INVALID_ARGUMENT if an argument is out of range.");
        range(() -> Look.of(TABLE), 2, 0, 3, "region", 2, 1, 0);
        int[][] wrong = {{-1, 0, 0}, {3, 0, 0}, {0, -1, 0}, {0, 2, 0}, {0, 0, -1}, {0, 0, 4},
            {MIN, MIN, MIN}, {MAX, MAX, MAX}};
        for (int[] w : wrong) {
            refuses(Look.of(TABLE), INVALID, "region", w);
        }
    }

    static void operatorReturnsAProperty() {
        promise(22, "Returns a property of an operator.");
        int[] due = {100, 1000, 0, 0};
        for (int operator = 0; operator <= 2; operator++) {
            for (int what = 0; what <= 3; what++) {
                due(new GainTables().operator(operator, what), due[what]);
            }
        }
    }

    static void operatorTakesOperators() {
        promise(22, "`operator`: 0 to 2");
        range(GainTables::new, 0, 0, 2, "operator", 0, 0);
    }

    static void operatorTellsStepAndBudget() {
        promise(22, "`what`: 0 the step, 1 the budget that is left");
        GainTables t = new GainTables();
        t.setOperator(2, 0, 9999);
        t.setOperator(2, 1, 99999);
        t.edit(2, 0, 0, 0, 9999);
        due(t.operator(2, 0), 9999);
        due(t.operator(2, 1), 90000);
        t.setOperator(2, 1, 0);
        due(t.operator(2, 1), 0);
    }

    static void operatorTellsTheLocks() {
        promise(22, ", 2 the number of locks");
        GainTables t = Look.of(TABLE);
        t.lock(1, 0, 0, 1);
        t.lock(1, 2, 1, 1);
        t.lock(2, 1, 1, 1);
        due(t.operator(0, 2), 0);
        due(t.operator(1, 2), 2);
        due(t.operator(2, 2), 1);
        t.addBorder(0, 800, 0, 0);
        due(t.operator(1, 2), 3);
        t.removeBorder(0, 2);
        due(t.operator(1, 2), 2);
        t.removeBorder(1, 0);
        due(t.operator(1, 2), 1);
        due(t.operator(2, 2), 0);
    }

    static void operatorTellsTheEdits() {
        promise(22, ", 3 the number of edits that were carried out");
        GainTables t = Look.of(TABLE);
        t.edit(0, 0, 0, 1, 50);
        t.edit(0, 0, 0, 1, 50);
        t.edit(0, 0, 0, 1, 151);
        t.edit(0, 0, 0, 1, 10000);
        due(t.operator(0, 3), 2);
        due(t.scale(0, 0, 200), 5);
        due(t.operator(0, 3), 7);
        due(t.operator(1, 3), 0);
        t.undo();
        due(t.operator(0, 3), 2);
    }

    static void operatorRefusesWhatIsOutOfRange() {
        promise(22, "Returns the property; INVALID_ARGUMENT if an argument is out of range.");
        range(GainTables::new, 1, 0, 3, "operator", 0, 0);
        int[][] wrong = {{-1, 0}, {3, 0}, {0, -1}, {0, 4}, {MIN, MIN}, {MAX, MAX}};
        for (int[] w : wrong) {
            refuses(Look.of(TABLE), INVALID, "operator", w);
        }
    }

    static void accountReturnsAnAccount() {
        promise(23, "Returns an account.");
        for (int account = 0; account <= 4; account++) {
            due(new GainTables().account(account), 0);
        }
    }

    static void accountsOfTheOperatorsTheTableAndAllTogether() {
        promise(23, "`account`: 0 to 2 for the operators, 3 for the table itself, 4 for all four"
                + " together");
        GainTables t = Look.of(TABLE);
        due(t.account(3), 1007);
        t.edit(0, 1, 0, 0, 1);
        t.edit(1, 1, 1, 0, 930);
        t.edit(2, 2, 0, 2, 0);
        t.addBorder(0, 10, 0, 0);
        int[] due = {-99, 30, -7, 1007, 931};
        for (int account = 0; account <= 4; account++) {
            due(t.account(account), due[account]);
        }
    }

    static void aSumOfManyGainsDoesNotWrapAround() {
        promise(23, "Returns the sum");
        GainTables t = Look.of("g0 0 0 9999;g0 0 1 9999;g0 0 2 9999;" + FULL_TABLE);
        due(t.account(3), 49 * 3 * 9999);
        due(t.account(4), 1469853);
        for (int i = 0; i < 20; i++) {
            t.setOperator(0, 0, 9999);
            t.setOperator(0, 1, 99999);
            t.scale(0, 0, 0);
            t.setOperator(1, 0, 9999);
            t.setOperator(1, 1, 99999);
            t.edit(1, 0, 0, 0, 9999);
        }
        due(t.account(0) + t.account(1) + t.account(3), t.account(4));
        due(t.account(0) < -200000 ? 1 : 0, 1);
    }

    static void accountRefusesWhatIsOutOfRange() {
        promise(23, "; INVALID_ARGUMENT if account is out of range.");
        range(GainTables::new, 0, 0, 4, "account", 0);
        for (int account : new int[] {-1, 5, MIN, MAX}) {
            refuses(Look.of(TABLE), INVALID, "account", account);
        }
    }

    static void gainReturnsAGainAtThePoint() {
        promise(24, "Returns a gain at the point.");
        GainTables t = Look.of(TABLE);
        t.move(460, 459);
        due(t.gain(0, 0), 100);
        t.move(350, 541);
        due(t.gain(0, 0), 900);
        t.move(349, 541);
        due(t.gain(0, 0), 0);
        t.move(1000, 0);
        due(t.gain(2, 0), 7);
        due(t.valueAt(460, 459, 0), 100);
        due(t.gain(0, 0), 0);
    }

    static void gainTakesGains() {
        promise(24, "`gain`: 0 to 2");
        range(() -> Look.of(TABLE), 0, 0, 2, "gain", 0, 0);
    }

    static void gainTellsValueNumeratorAndDenominator() {
        promise(24, "`what`: 0 its value, 1 the numerator and 2 the denominator of its fraction");
        GainTables t = Look.of(TABLE);
        t.move(710, 499);
        int numerator = 10 * 41 * 100 + 10 * 39 * 900;
        due(t.gain(0, 0), numerator / 3200);
        due(t.gain(0, 1), numerator);
        due(t.gain(0, 2), 40 * 80);
        due(t.gain(1, 0) + t.gain(1, 1), 0);
        due(t.gain(1, 2), 3200);
        due(t.gain(2, 1), 30 * 41 * 7);
        due(t.gain(2, 0), 30 * 41 * 7 / 3200);
    }

    static void gainRefusesWhatIsOutOfRange() {
        promise(24, "Returns the number; INVALID_ARGUMENT if an argument is out of range.");
        range(() -> Look.of(TABLE), 1, 0, 2, "gain", 0, 0);
        int[][] wrong = {{-1, 0}, {3, 0}, {0, -1}, {0, 3}, {MIN, MIN}, {MAX, MAX}};
        for (int[] w : wrong) {
            refuses(Look.of(TABLE), INVALID, "gain", w);
        }
    }

    static void trailReturnsAPartOfAnEntry() {
        promise(25, "Returns a part of an entry of the trail.");
        GainTables t = Look.of(TABLE);
        t.move(460, 541);
        int[] due = {460, 541, 1, 0, 900, 0, 0, 400};
        for (int what = 0; what <= 7; what++) {
            due(t.trail(0, what), due[what]);
        }
    }

    static void trailZeroIsTheLatestEntry() {
        promise(25, "`back`: 0 for the latest entry");
        GainTables t = new GainTables();
        for (int i = 1; i <= 45; i++) {
            t.move(i, 0);
            due(t.trail(0, 0), i);
        }
        for (int back = 0; back <= 19; back++) {
            due(t.trail(back, 0), 45 - back);
        }
    }

    static void trailTellsCoordinatesZonesValuesAndJump() {
        promise(25, "`what`: 0 and 1 the coordinates, 2 and 3 the active zones, 4 to 6 the values of"
                + " the gains, 7 the jump");
        GainTables t = Look.of("x400 50;x600 5;y500 3;g1 1 0 11;g2 0 1 22;g2 0 2 33;");
        t.move(700, 300);
        t.move(405, 600);
        int[][] due = {{405, 600, 1, 1, 11, 0, 0, 33}, {700, 300, 2, 0, 0, 22, 33, 33}};
        for (int back = 0; back <= 1; back++) {
            for (int what = 0; what <= 7; what++) {
                due(t.trail(back, what), due[back][what]);
            }
        }
    }

    static void trailRefusesNegativeBacks() {
        promise(25, "Returns the part; INVALID_ARGUMENT if back is negative");
        GainTables t = Look.of(TABLE);
        for (int back : new int[] {-1, -20, MIN}) {
            refuses(t, INVALID, "trail", back, 0);
        }
        t.move(1, 1);
        refuses(t, INVALID, "trail", -1, 0);
        due(t.trail(0, 0), 1);
    }

    static void trailRefusesWhatIsOutOfRange() {
        promise(25, " or what is out of range");
        GainTables t = new GainTables();
        for (int what : new int[] {-1, 8, MIN, MAX}) {
            refuses(t, INVALID, "trail", 0, what);
        }
        t.move(1, 1);
        t.move(2, 2);
        for (int what : new int[] {-1, 8, MIN, MAX}) {
            refuses(t, INVALID, "trail", 0, what);
            refuses(t, INVALID, "trail", 1, what);
        }
    }

    static void trailReturnsNoneIfThereAreNotSoMany() {
        promise(25, "; NONE if there are not so many.");
        GainTables t = new GainTables();
        due(t.trail(0, 0), NONE);
        due(t.trail(MAX, 7), NONE);
        for (int entries = 1; entries <= 22; entries++) {
            t.move(entries, 0);
            int kept = Math.min(entries, 20);
            due(t.trail(kept - 1, 0), entries - kept + 1);
            for (int what = 0; what <= 7; what++) {
                due(t.trail(kept, what), NONE);
            }
        }
        due(t.trail(MAX, 0), NONE);
    }
}
