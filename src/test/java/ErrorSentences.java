/** The terms of errors, each sentence by itself. */
final class ErrorSentences extends Sentences {
    private static final int[] EDGES = {-1, 7, 101, 160, 256, 1001, 10000, 100000, MIN, MAX, NONE,
        INVALID};

    /** Borders of both kinds, gains, a lock, a snapshot, zones that stick and a written text. */
    private static GainTables rich() {
        GainTables t = Look.of("x400 50;x700 20~;y600 50;g1 0 0 90;g2 1 1 8;");
        t.take(1);
        t.lock(1, 0, 0, 1);
        t.setMargin(3);
        t.move(450, 649);
        t.move(370, 640);
        Look.write(t, "x5 1;q");
        return t;
    }

    /** Every argument of every method in turn, so that most of these calls are refused. */
    static void anErrorChangesNothing() {
        terms("A call that returns an error code changes nothing.");
        for (java.lang.reflect.Method m : Call.FACE) {
            for (int argument = 0; argument < m.getParameterCount(); argument++) {
                for (int edge : EDGES) {
                    int[] arguments = new int[m.getParameterCount()];
                    arguments[argument] = edge;
                    GainTables t = rich();
                    String look = Look.all(t);
                    if (Look.isError(new Call(m.getName(), arguments).on(t))) {
                        same(Look.all(t), look);
                    }
                }
            }
        }
    }

    static void anErrorChangesNothingThatIsHidden() {
        terms("A call that returns an error code changes nothing.");
        GainTables t = rich();
        refuses(t, INVALID, "take", 3);
        refuses(t, ILLEGAL, "restore", 0);
        refuses(t, Look.TEXT_ERROR - 5, "load");
        refuses(t, ILLEGAL, "addBorder", 0, 400, 0, 0);
        refuses(t, ILLEGAL, "edit", 0, 0, 0, 0, 1);
        refuses(t, INVALID, "scale", 0, 3, 10);
        refuses(t, INVALID, "sweep", 0, 0, 0);
        GainTables untouched = rich();
        while (untouched.count(9) > 0) {
            due(t.undo(), untouched.undo());
            same(Look.all(t), Look.all(untouched));
        }
        due(t.restore(1), untouched.restore(1));
        same(Look.all(t), Look.all(untouched));
    }

    static void addBorderTellsTheFirstOfItsErrors() {
        terms("If several error conditions apply, the method returns the one that its description"
                + " lists first");
        GainTables t = Look.of("x1 0;x2 0;x3 0;x4 0;x5 0;x6 0;");
        due(t.addBorder(0, 6, 0, 7), INVALID);
        due(t.addBorder(0, 6, 1, 0), INVALID);
        due(t.addBorder(0, 6, 0, 6), ILLEGAL);
        due(t.addBorder(0, 6, 0, 0), ILLEGAL);
        due(t.addBorder(0, 900, 0, 101), INVALID);
        due(t.addBorder(0, 999, 0, 2), INVALID);
        due(t.addBorder(0, 999, 0, 1), FULL);
    }

    static void setReachTellsTheFirstOfItsErrors() {
        terms("the method returns the one that its description lists first");
        GainTables t = Look.of("x50 10;x120 20;x900 10~;x950 10;");
        due(t.setReach(0, 0, 51), INVALID);
        due(t.setReach(0, 0, 50), ILLEGAL);
        due(t.setReach(0, 3, 51), INVALID);
        due(t.setReach(0, 3, 50), ILLEGAL);
        due(t.setReach(0, 2, 0), INVALID);
        due(t.setReach(0, 2, 101), INVALID);
        due(t.setReach(0, 2, 40), ILLEGAL);
    }

    static void editAndLockTellTheFirstOfTheirErrors() {
        terms("the method returns the one that its description lists first");
        GainTables t = new GainTables();
        t.lock(1, 0, 0, 1);
        due(t.edit(0, 0, 0, 0, 10000), INVALID);
        due(t.edit(0, 0, 0, 3, 0), INVALID);
        due(t.edit(0, 0, 0, 0, 0), ILLEGAL);
        due(t.lock(0, 0, 0, 2), INVALID);
        due(t.lock(0, 1, 0, 1), INVALID);
        due(t.lock(0, 0, 0, 1), ILLEGAL);
        due(t.refusal(0, 0, 0, 0, 10000), INVALID);
    }

    static void sweepAndRestoreTellTheFirstOfTheirErrors() {
        terms("the method returns the one that its description lists first");
        GainTables t = new GainTables();
        due(t.sweep(0, 500, 0), INVALID);
        due(t.sweep(0, 500, 1001), INVALID);
        due(t.sweep(2, 500, 5), INVALID);
        due(t.sweep(0, 500, 5), ILLEGAL);
        due(t.restore(3), INVALID);
        due(t.restore(-1), INVALID);
        due(t.restore(2), ILLEGAL);
    }

    static void appendTellsTheFirstOfItsErrors() {
        terms("the method returns the one that its description lists first");
        GainTables t = new GainTables();
        Look.write(t, " ".repeat(160));
        due(t.append(0), INVALID);
        due(t.append(256), INVALID);
        due(t.append(1), FULL);
        due(t.append(255), FULL);
    }

    static void calmReachTellsTheFirstOfItsErrors() {
        terms("the method returns the one that its description lists first");
        GainTables t = Look.of("x400 10~;x700 5;x710 4~;");
        due(t.calmReach(0, 0, 501), INVALID);
        due(t.calmReach(0, 0, 401), INVALID);
        due(t.calmReach(0, 0, 400), ILLEGAL);
        due(t.calmReach(0, 2, 200), ILLEGAL);
        due(t.calmReach(0, 1, 301), INVALID);
        due(t.calmReach(0, 1, 300), NONE);
        due(t.calmReach(0, 1, 6), NONE);
    }

    static void noneComesBehindAllErrors() {
        terms("; NONE is no error, and it is returned only if no error condition applies.");
        GainTables t = new GainTables();
        t.setMargin(50);
        due(t.border(0, 9, 0), NONE);
        due(t.border(2, 9, 0), INVALID);
        due(t.border(0, 9, 3), INVALID);
        due(t.trail(9, 0), NONE);
        due(t.trail(9, 8), INVALID);
        due(t.move(500, 500), NONE);
        due(t.move(500, 1001), INVALID);
        due(t.move(-1, 500), INVALID);
    }

    static void aCallThatReturnsNoneIsSuccessful() {
        terms("; NONE is no error");
        GainTables t = new GainTables();
        t.setMargin(50);
        due(t.move(500, 500), NONE);
        due(t.count(9), 2);
        due(t.count(7), 1);
        due(t.region(0, 0, 3), NONE);
    }

    static void theConstantInvalidArgument() {
        terms("The constants: `INVALID_ARGUMENT = -2000000001`: An argument is out of range, or names"
                + " something that does not exist.");
        due(GainTables.INVALID_ARGUMENT, -2000000001L);
        GainTables t = new GainTables();
        due(t.count(12), -2000000001L);
        due(t.removeBorder(0, 0), -2000000001L);
        due(t.setReach(0, 0, 0), -2000000001L);
        due(t.region(0, 1, 0), -2000000001L);
    }

    static void theConstantIllegalState() {
        terms("`ILLEGAL_STATE = -2000000002`: The call is not possible in the present state.");
        due(GainTables.ILLEGAL_STATE, -2000000002L);
        due(new GainTables().undo(), -2000000002L);
    }

    static void theConstantCapacityExceeded() {
        terms("`CAPACITY_EXCEEDED = -2000000003`: There is no room.");
        due(GainTables.CAPACITY_EXCEEDED, -2000000003L);
        GainTables t = Look.of("x1 0;x2 0;x3 0;x4 0;x5 0;x6 0;");
        due(t.addBorder(0, 7, 0, 0), -2000000003L);
        Look.write(t, " ".repeat(160));
        due(t.append(' '), -2000000003L);
    }

    static void theConstantNone() {
        terms("`NONE = -2000000009`: There is no such value.");
        due(GainTables.NONE, -2000000009L);
        GainTables t = new GainTables();
        due(t.border(0, 0, 0), -2000000009L);
        due(t.trail(0, 0), -2000000009L);
        due(t.region(0, 0, 3), -2000000009L);
    }
}
