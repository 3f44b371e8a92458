/** The terms of snapshots and undo, and promises 12 to 14: take, restore, undo. */
final class SnapshotSentences extends Sentences {
    private static final String TABLE = "x400 50;x800 9~;y500 3;g2 1 0 70;g0 0 2 5;g1 0 1 600;";

    static void thereAreThreePlaces() {
        terms("There are three places for snapshots");
        range(() -> Look.of(TABLE), 0, 0, 2, "take", 1);
        range(SnapshotSentences::allTaken, 0, 0, 2, "restore", 1);
        GainTables t = new GainTables();
        for (int place = 0; place <= 2; place++) {
            due(t.take(place), place + 1);
            due(t.count(11), place + 1);
            due(t.addBorder(0, 100 + 100 * place, 0, 0), place);
        }
        for (int place = 0; place <= 2; place++) {
            due(t.restore(place), place + 1);
        }
    }

    private static GainTables allTaken() {
        GainTables t = Look.of(TABLE);
        for (int place = 0; place <= 2; place++) {
            t.take(place);
        }
        return t;
    }

    static void placesAreEmptyAtFirst() {
        terms(", empty at first.");
        GainTables t = new GainTables();
        due(t.count(11), 0);
        for (int place = 0; place <= 2; place++) {
            refuses(t, ILLEGAL, "restore", place);
        }
        t.take(1);
        refuses(t, ILLEGAL, "restore", 0);
        refuses(t, ILLEGAL, "restore", 2);
        due(t.restore(1), 1);
    }

    static void aSnapshotKeepsTheBorders() {
        terms("A snapshot keeps the borders");
        GainTables t = Look.of(TABLE);
        t.take(2);
        t.setReach(0, 0, 1);
        t.removeBorder(0, 1);
        t.addBorder(1, 600, 1, 4);
        t.addBorder(0, 10, 1, 4);
        due(t.restore(2), 6);
        border(t, 0, 0, 400, 0, 50);
        border(t, 0, 1, 800, 1, 9);
        border(t, 1, 0, 500, 0, 3);
        due(t.border(0, 2, 0), NONE);
        due(t.border(1, 1, 0), NONE);
    }

    private static void border(GainTables t, int axis, int border, int position, int kind,
            int reach) {
        due(t.border(axis, border, 0), position);
        due(t.border(axis, border, 1), kind);
        due(t.border(axis, border, 2), reach);
    }

    static void aSnapshotKeepsTheGains() {
        terms(", the gains and the locks.");
        GainTables t = Look.rich(TABLE);
        t.take(0);
        t.edit(0, 2, 1, 0, 9);
        t.scale(0, 1, 10);
        due(t.region(1, 0, 1), 60);
        Look.read(t, "g0 0 0 8;");
        due(t.restore(0), 6);
        for (int column = 0; column <= 2; column++) {
            for (int row = 0; row <= 1; row++) {
                due(t.region(column, row, 0), column == 2 && row == 1 ? 70 : 0);
                due(t.region(column, row, 1), column == 1 && row == 0 ? 600 : 0);
                due(t.region(column, row, 2), column == 0 && row == 0 ? 5 : 0);
            }
        }
    }

    static void aSnapshotKeepsTheLocks() {
        terms(", the gains and the locks.");
        GainTables t = Look.of(TABLE);
        t.lock(2, 0, 1, 1);
        t.lock(0, 2, 0, 1);
        t.take(0);
        t.lock(2, 0, 1, 0);
        t.lock(1, 0, 1, 1);
        t.lock(1, 1, 1, 1);
        due(t.restore(0), 6);
        due(t.region(0, 1, 3), 2);
        due(t.region(2, 0, 3), 0);
        due(t.region(1, 1, 3), NONE);
        due(t.operator(1, 2), 0);
        due(t.edit(1, 0, 1, 0, 1), ILLEGAL);
    }

    static void toRestoreMakesTheTableThatOfTheSnapshot() {
        terms("To restore it makes them those of the snapshot");
        GainTables t = allTaken();
        String look = table(t);
        Look.read(t, "y9 9;y100 9~;g0 2 1 5;");
        holds(!table(t).equals(look));
        due(t.restore(1), 6);
        same(table(t), look);
    }

    /** The lines of borders and regions. */
    private static String table(GainTables t) {
        String[] lines = Look.all(t).split("\n");
        return lines[1].replaceAll("^[^(]*", "") + lines[2].replaceAll("^[^(]*", "") + lines[3];
    }

    static void toRestoreChangesNothingElse() {
        terms("; nothing else changes but the active zones and the account 3.");
        GainTables t = allTaken();
        t.edit(1, 0, 0, 0, 70);
        t.setOperator(2, 0, 7);
        t.setMargin(3);
        t.move(450, 9);
        t.move(360, 9);
        t.move(361, 10);
        t.append('x');
        int[] counts = {6, 3, 360, 9, 1, 0, 2, 1, 2, 5, 1, 3};
        for (int what = 0; what <= 11; what++) {
            due(t.count(what), counts[what]);
        }
        String trail = lastLine(t);
        due(t.account(3), 675);
        due(t.restore(2), 6);
        counts[4] = 0;
        for (int what = 0; what <= 11; what++) {
            due(t.count(what), counts[what]);
        }
        same(lastLine(t), trail);
        due(t.account(3), 675 - 70);
        due(t.account(1), 70);
        due(t.operator(1, 1), 930);
        due(t.operator(1, 3), 1);
        due(t.operator(2, 0), 7);
    }

    private static String lastLine(GainTables t) {
        String look = Look.all(t);
        return look.substring(look.lastIndexOf('\n'));
    }

    static void fiveStatesAreKept() {
        terms("A history of at most 5 states is kept");
        GainTables t = new GainTables();
        for (int actions = 0; actions <= 12; actions++) {
            due(t.count(9), Math.min(actions, 5));
            t.setMargin(actions);
        }
        for (int left = 4; left >= 0; left--) {
            due(t.undo(), left);
            due(t.count(1), left + 7);
        }
        refuses(t, ILLEGAL, "undo");
    }

    static void aStateHasTheTable() {
        terms("; a state is everything");
        GainTables t = Look.of(TABLE);
        t.lock(1, 0, 0, 1);
        String look = table(t);
        Look.read(t, "");
        due(t.undo(), 2);
        same(table(t), look);
    }

    static void aStateHasThePointTheZonesAndTheMargin() {
        terms("; a state is everything");
        GainTables t = Look.of(TABLE);
        t.setMargin(5);
        t.move(450, 503);
        t.move(350, 497);
        t.move(0, 0);
        t.undo();
        due(t.count(1), 5);
        due(t.count(2), 350);
        due(t.count(3), 497);
        due(t.count(4), 1);
        due(t.count(5), 1);
        t.setMargin(0);
        t.undo();
        due(t.count(1), 5);
    }

    static void aStateHasTheOperatorsAndTheAccounts() {
        terms("; a state is everything");
        GainTables t = Look.of(TABLE);
        t.edit(0, 0, 0, 0, 60);
        t.edit(0, 0, 0, 0, 10);
        t.undo();
        due(t.operator(0, 1), 940);
        due(t.operator(0, 3), 1);
        due(t.account(0), 60);
        due(t.account(3), 675);
        t.setOperator(0, 0, 9);
        t.undo();
        due(t.operator(0, 0), 100);
        Look.read(t, "");
        due(t.account(3), -60);
        t.undo();
        due(t.account(3), 675);
    }

    static void aStateHasEachOfTheOperators() {
        terms("; a state is everything");
        for (int operator = 0; operator <= 2; operator++) {
            GainTables t = new GainTables();
            t.setOperator(operator, 0, 70);
            t.undo();
            due(t.operator(operator, 0), 100);
            t.setOperator(operator, 1, 700);
            t.undo();
            due(t.operator(operator, 1), 1000);
            t.edit(operator, 0, 0, 0, 60);
            t.undo();
            due(t.operator(operator, 1), 1000);
            due(t.operator(operator, 3), 0);
            due(t.account(operator), 0);
            due(t.region(0, 0, 0), 0);
        }
    }

    static void aStateHasTheSnapshots() {
        terms("; a state is everything");
        for (int place = 0; place <= 2; place++) {
            GainTables t = Look.of(TABLE);
            t.take(place);
            Look.read(t, "y9 9;");
            t.take(place);
            due(t.undo(), 3);
            due(t.restore(place), 6);
            t.undo();
            t.undo();
            due(t.undo(), 1);
            due(t.count(11), 0);
            refuses(t, ILLEGAL, "restore", place);
        }
    }

    static void aStateHasTheTrailAndTheCountsOfMoves() {
        terms("; a state is everything");
        GainTables t = new GainTables();
        for (int i = 1; i <= 22; i++) {
            t.move(i, 0);
        }
        t.sweep(1, 400, 7);
        due(t.undo(), 4);
        due(t.count(6), 20);
        due(t.count(8), 22);
        for (int back = 0; back < 20; back++) {
            due(t.trail(back, 0), 22 - back);
            due(t.trail(back, 1), 0);
        }
        t.setMargin(2);
        t.move(21, 1);
        due(t.count(7), 1);
        due(t.undo(), 5 - 1);
        due(t.count(7), 0);
    }

    static void aStateDoesNotHaveTheText() {
        terms(" but the text and the history.");
        GainTables t = new GainTables();
        Look.write(t, "x5");
        t.setMargin(1);
        Look.write(t, "00 1;");
        due(t.undo(), 0);
        due(t.count(10), 7);
        due(t.load(), 1);
        due(t.border(0, 0, 0), 500);
        due(t.undo(), 0);
        due(t.count(10), 0);
        t.setMargin(2);
        Look.write(t, "y");
        t.clearText();
        t.undo();
        due(t.clearText(), 0);
    }

    static void aStateDoesNotHaveTheHistory() {
        terms(" but the text and the history.");
        GainTables t = new GainTables();
        for (int i = 1; i <= 5; i++) {
            t.setMargin(i);
        }
        due(t.undo(), 4);
        due(t.undo(), 3);
        due(t.count(9), 3);
        t.setMargin(30);
        due(t.count(9), 4);
        int[] margins = {3, 2, 1, 0};
        for (int i = 0; i < 4; i++) {
            due(t.undo(), 3 - i);
            due(t.count(1), margins[i]);
        }
    }

    static void everyActionRecordsTheStateBeforeIt() {
        terms("Every successful call of a method that is called an action records the state before"
                + " it");
        isAction(Look.of(TABLE), "addBorder", 0, 100, 0, 3);
        isAction(Look.of(TABLE), "removeBorder", 1, 0);
        isAction(Look.of(TABLE), "setReach", 0, 0, 9);
        isAction(Look.of(TABLE), "setOperator", 0, 1, 9);
        isAction(Look.of(TABLE), "edit", 0, 0, 0, 0, 9);
        isAction(Look.of(TABLE), "scale", 0, 0, 9);
        isAction(Look.of(TABLE), "lock", 0, 0, 0, 1);
        isAction(Look.of(TABLE), "setMargin", 9);
        isAction(Look.of(TABLE), "move", 0, 9);
        isAction(Look.of(TABLE), "sweep", 0, 9, 9);
        isAction(Look.of(TABLE), "take", 0);
        isAction(Look.of(TABLE), "load");
        GainTables t = Look.of(TABLE);
        t.take(0);
        t.move(0, 0);
        isAction(t, "restore", 0);
    }

    static void refusedCallsRecordNothing() {
        terms("Every successful call");
        GainTables t = Look.of(TABLE);
        t.setMargin(7);
        refuses(t, ILLEGAL, "addBorder", 0, 400, 0, 3);
        refuses(t, INVALID, "removeBorder", 1, 1);
        refuses(t, INVALID, "setReach", 0, 0, -1);
        refuses(t, INVALID, "setOperator", 0, 2, 9);
        refuses(t, ILLEGAL, "edit", 0, 0, 0, 0, 900);
        refuses(t, INVALID, "scale", 0, 0, 1001);
        refuses(t, ILLEGAL, "lock", 0, 0, 0, 0);
        refuses(t, INVALID, "setMargin", 51);
        refuses(t, INVALID, "move", 0, 1001);
        refuses(t, ILLEGAL, "sweep", 0, 500, 9);
        refuses(t, INVALID, "take", 3);
        refuses(t, ILLEGAL, "restore", 0);
        t.append(';');
        refuses(t, Look.TEXT_ERROR, "load");
        due(t.count(9), 2);
        due(t.undo(), 1);
        due(t.count(1), 0);
    }

    static void otherMethodsRecordNothing() {
        terms("a method that is called an action");
        GainTables t = Look.of(TABLE);
        t.append('x');
        t.clearText();
        t.count(9);
        t.axis(0, 0);
        t.border(0, 0, 0);
        t.region(0, 0, 0);
        t.operator(0, 0);
        t.account(0);
        t.gain(0, 0);
        t.trail(0, 0);
        t.refusal(0, 0, 0, 0, 0);
        t.effect(0, 0);
        t.valueAt(0, 0, 0);
        t.chatter(0, 500, 0, 9);
        t.calmReach(0, 0, 9);
        t.steepest(0, 0, 0);
        due(t.count(9), 1);
        due(t.undo(), 0);
        due(t.count(9), 0);
    }

    static void theSixthStateDropsTheOldest() {
        terms("; when a sixth one is recorded, the oldest one is dropped.");
        GainTables t = new GainTables();
        for (int i = 1; i <= 5; i++) {
            t.move(i, 0);
        }
        due(t.count(9), 5);
        t.move(6, 0);
        due(t.count(9), 5);
        int[] places = {5, 4, 3, 2, 1};
        for (int place : places) {
            t.undo();
            due(t.count(2), place);
        }
        refuses(t, ILLEGAL, "undo");
        due(t.count(2), 1);
    }

    static void fiveStatesLeadBackToTheBeginning() {
        terms("; when a sixth one is recorded, the oldest one is dropped.");
        GainTables t = new GainTables();
        String look = state(t);
        for (int i = 1; i <= 5; i++) {
            t.move(i, 0);
        }
        for (int left = 4; left >= 0; left--) {
            due(t.undo(), left);
        }
        same(state(t), look);
    }

    static void undoTakesTheLatestState() {
        terms("undo() removes the latest state from the history and restores it.");
        GainTables t = new GainTables();
        t.setMargin(1);
        t.setMargin(2);
        due(t.undo(), 1);
        due(t.count(1), 1);
        t.setMargin(3);
        due(t.undo(), 1);
        due(t.count(1), 1);
        due(t.undo(), 0);
        due(t.count(1), 0);
    }

    static void takeTakesASnapshot() {
        promise(12, "Takes a snapshot");
        GainTables t = Look.of(TABLE);
        String look = table(t);
        due(t.take(1), 6);
        same(table(t), look);
        due(t.count(11), 1);
        Look.read(t, "");
        t.restore(1);
        same(table(t), look);
    }

    static void takeReplacesASnapshot() {
        promise(12, ", in place of one that is there.");
        for (int place = 0; place <= 2; place++) {
            GainTables t = allTaken();
            t.removeBorder(0, 0);
            due(t.take(place), 4);
            due(t.count(11), 3);
            t.removeBorder(0, 0);
            for (int other = 0; other <= 2; other++) {
                due(t.restore(other), other == place ? 4 : 6);
            }
        }
    }

    static void takeIsAnAction() {
        promise(12, "This is an action.");
        isAction(new GainTables(), "take", 2);
        GainTables t = new GainTables();
        t.take(2);
        isAction(t, "take", 2);
    }

    static void takeTakesPlaces() {
        promise(12, "`place`: 0 to 2");
        range(GainTables::new, 0, 0, 2, "take", 0);
    }

    static void takeReturnsTheNumberOfRegions() {
        promise(12, "Returns the number of regions");
        due(new GainTables().take(0), 1);
        due(Look.of(TABLE).take(0), 6);
        due(Look.of("x1 0;x2 0;x3 0;x4 0;x5 0;x6 0;y1 0;y2 0;y3 0;y4 0;y5 0;y6 0;").take(0), 49);
    }

    static void takeRefusesWhatIsOutOfRange() {
        promise(12, "; INVALID_ARGUMENT if place is out of range.");
        for (int place : new int[] {-1, 3, MIN, MAX}) {
            refuses(allTaken(), INVALID, "take", place);
        }
    }

    static void restoreRestoresASnapshot() {
        promise(13, "Restores a snapshot");
        GainTables t = new GainTables();
        t.addBorder(1, 300, 1, 20);
        t.edit(0, 0, 1, 1, 99);
        t.take(0);
        t.edit(0, 0, 1, 1, 0);
        t.addBorder(1, 600, 1, 20);
        due(t.restore(0), 2);
        due(t.region(0, 1, 1), 99);
        due(t.axis(1, 0), 1);
    }

    static void theSnapshotStays() {
        promise(13, ", which stays.");
        GainTables t = Look.of(TABLE);
        t.take(0);
        for (int i = 0; i < 3; i++) {
            t.edit(0, 0, 0, 0, 30 + i);
            t.lock(0, 0, 0, 1);
            t.removeBorder(0, 1);
            due(t.restore(0), 6);
            due(t.count(11), 1);
            due(t.region(0, 0, 0), 0);
            due(t.region(0, 0, 3), NONE);
            due(t.border(0, 1, 0), 800);
        }
    }

    static void restoreIsAnAction() {
        promise(13, "This is an action.");
        GainTables t = Look.of(TABLE);
        t.take(0);
        t.lock(0, 0, 0, 1);
        isAction(t, "restore", 0);
        GainTables same = new GainTables();
        same.take(0);
        isAction(same, "restore", 0);
    }

    static void restoreTakesPlaces() {
        promise(13, "`place`: 0 to 2");
        range(SnapshotSentences::allTaken, 0, 0, 2, "restore", 0);
    }

    static void restoreReturnsTheNumberOfRegions() {
        promise(13, "Returns the number of regions");
        GainTables t = Look.of("x1 0;x2 0;x3 0;x4 0;x5 0;x6 0;y1 0;y2 0;y3 0;y4 0;y5 0;y6 0;");
        t.take(0);
        t.removeBorder(0, 3);
        t.take(1);
        Look.read(t, "");
        t.take(2);
        due(t.restore(0), 49);
        due(t.restore(1), 42);
        due(t.restore(2), 1);
    }

    static void restoreRefusesWhatIsOutOfRange() {
        promise(13, "; INVALID_ARGUMENT if place is out of range");
        for (int place : new int[] {-1, 3, MIN, MAX}) {
            refuses(allTaken(), INVALID, "restore", place);
            refuses(new GainTables(), INVALID, "restore", place);
        }
    }

    static void restoreRefusesAnEmptyPlace() {
        promise(13, "; ILLEGAL_STATE if the place is empty.");
        for (int place = 0; place <= 2; place++) {
            GainTables t = Look.of(TABLE);
            refuses(t, ILLEGAL, "restore", place);
            t.take((place + 1) % 3);
            t.take((place + 2) % 3);
            refuses(t, ILLEGAL, "restore", place);
            t.take(place);
            due(t.restore(place), 6);
        }
    }

    static void undoRestoresTheLatestState() {
        promise(14, "Removes the latest state from the history and restores it.");
        GainTables t = Look.of(TABLE);
        String[] looks = new String[5];
        int[][] moves = {{0, 0}, {1000, 0}, {400, 500}};
        for (int i = 0; i < 3; i++) {
            looks[i] = state(t);
            t.move(moves[i][0], moves[i][1]);
        }
        for (int i = 2; i >= 0; i--) {
            due(t.undo(), i + 1);
            due(t.count(9), i + 1);
            same(state(t), looks[i]);
        }
    }

    static void undoReturnsHowManyStatesAreLeft() {
        promise(14, "Returns the number of states that are left in the history");
        GainTables t = new GainTables();
        t.setMargin(1);
        due(t.undo(), 0);
        for (int i = 0; i < 9; i++) {
            t.setMargin(1);
        }
        for (int left = 4; left >= 0; left--) {
            due(t.undo(), left);
        }
    }

    static void undoRefusesAnEmptyHistory() {
        promise(14, "; ILLEGAL_STATE if it is empty.");
        GainTables t = new GainTables();
        refuses(t, ILLEGAL, "undo");
        t.setMargin(9);
        t.undo();
        refuses(t, ILLEGAL, "undo");
        t.setMargin(9);
        due(t.undo(), 0);
    }
}
