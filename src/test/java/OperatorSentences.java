/** The terms of operators and promises 5 to 8: setOperator, edit, scale, lock. */
final class OperatorSentences extends Sentences {
    private static GainTables four() {
        return Look.of("x500 1;y300 1;");
    }

    static void thereAreThreeOperators() {
        terms("There are three operators, numbered from 0.");
        range(OperatorSentences::four, 0, 0, 2, "setOperator", 1, 0, 5);
        range(OperatorSentences::four, 0, 0, 2, "edit", 1, 0, 0, 0, 5);
        range(OperatorSentences::four, 0, 0, 2, "scale", 1, 0, 5);
        range(OperatorSentences::four, 0, 0, 2, "lock", 1, 0, 0, 1);
        range(OperatorSentences::four, 0, 0, 2, "operator", 1, 0);
        range(OperatorSentences::four, 0, 0, 2, "refusal", 1, 0, 0, 0, 5);
    }

    static void operatorsAreApart() {
        terms("There are three operators, numbered from 0.");
        GainTables t = new GainTables();
        for (int operator = 0; operator <= 2; operator++) {
            t.setOperator(operator, 0, 11 + operator);
            t.setOperator(operator, 1, 500 + operator);
            t.edit(operator, 0, 0, operator, 3 + operator);
        }
        for (int operator = 0; operator <= 2; operator++) {
            due(t.operator(operator, 0), 11 + operator);
            due(t.operator(operator, 1), 497);
            due(t.operator(operator, 3), 1);
            due(t.account(operator), 3 + operator);
        }
    }

    static void aStepGoesFromOneTo9999() {
        terms("An operator has a step, 1 to 9999");
        range(GainTables::new, 2, 1, 9999, "setOperator", 1, 0, 5);
        refuses(new GainTables(), INVALID, "setOperator", 0, 0, 0);
        refuses(new GainTables(), INVALID, "setOperator", 0, 0, 10000);
    }

    static void aStepIs100AtFirst() {
        terms(" (at first 100)");
        GainTables t = new GainTables();
        for (int operator = 0; operator <= 2; operator++) {
            due(t.operator(operator, 0), 100);
            due(t.edit(operator, 0, 0, operator, 101), ILLEGAL);
            due(t.edit(operator, 0, 0, operator, 100), 0);
        }
    }

    static void aBudgetGoesFromZeroTo99999() {
        terms(", and a budget, 0 to 99999");
        range(GainTables::new, 2, 0, 99999, "setOperator", 1, 1, 5);
        refuses(new GainTables(), INVALID, "setOperator", 0, 1, -1);
        refuses(new GainTables(), INVALID, "setOperator", 0, 1, 100000);
    }

    static void aBudgetIs1000AtFirst() {
        terms(" (at first 1000).");
        GainTables t = new GainTables();
        for (int operator = 0; operator <= 2; operator++) {
            due(t.operator(operator, 1), 1000);
            t.setOperator(operator, 0, 9999);
            due(t.edit(operator, 0, 0, operator, 1001), ILLEGAL);
            due(t.edit(operator, 0, 0, operator, 1000), 0);
        }
    }

    static void anEditSetsOneGain() {
        terms("An edit sets a gain of a region to a value");
        GainTables t = four();
        due(t.edit(1, 1, 0, 2, 77), 0);
        for (int column = 0; column <= 1; column++) {
            for (int row = 0; row <= 1; row++) {
                for (int gain = 0; gain <= 2; gain++) {
                    boolean edited = column == 1 && row == 0 && gain == 2;
                    due(t.region(column, row, gain), edited ? 77 : 0);
                }
            }
        }
    }

    static void anEditMayChangeNothing() {
        terms(" (also to that which it has).");
        GainTables t = four();
        due(t.edit(0, 0, 0, 0, 0), 0);
        due(t.edit(0, 0, 0, 0, 0), 0);
        due(t.operator(0, 3), 2);
        due(t.operator(0, 1), 1000);
        due(t.count(9), 3);
        t.setOperator(0, 1, 0);
        due(t.edit(0, 0, 0, 0, 0), 0);
        due(t.operator(0, 3), 3);
    }

    static void theFirstReasonThatAppliesIsTold() {
        terms("It is refused, for the first reason that applies, if:");
        GainTables t = four();
        t.lock(1, 0, 0, 1);
        t.setOperator(0, 0, 10);
        t.setOperator(0, 1, 5);
        due(t.refusal(0, 0, 0, 0, 11), 1);
        due(t.refusal(0, 0, 0, 0, 6), 1);
        due(t.refusal(0, 0, 0, 0, 5), 1);
        due(t.refusal(0, 1, 0, 0, 11), 2);
        due(t.refusal(0, 1, 0, 0, 10), 3);
        due(t.refusal(0, 1, 0, 0, 6), 3);
        due(t.refusal(0, 1, 0, 0, 5), 0);
    }

    static void theLockOfAnotherOperatorRefuses() {
        terms("1: another operator has the lock of the region;");
        for (int holder = 0; holder <= 2; holder++) {
            GainTables t = four();
            t.lock(holder, 1, 1, 1);
            for (int operator = 0; operator <= 2; operator++) {
                if (operator != holder) {
                    due(t.refusal(operator, 1, 1, 0, 0), 1);
                    refuses(t, ILLEGAL, "edit", operator, 1, 1, 0, 0);
                }
                due(t.refusal(operator, 1, 0, 0, 0), 0);
            }
            due(t.edit(holder, 1, 1, 0, 9), 0);
        }
    }

    static void aLockThatIsGivenBackRefusesNothing() {
        terms("1: another operator has the lock of the region;");
        GainTables t = four();
        t.lock(1, 1, 1, 1);
        refuses(t, ILLEGAL, "edit", 0, 1, 1, 0, 5);
        t.lock(1, 1, 1, 0);
        due(t.edit(0, 1, 1, 0, 5), 0);
    }

    static void aDifferenceGreaterThanTheStepRefuses() {
        terms("2: the difference, without sign, of the value and the gain is greater than the step"
                + " of the operator;");
        GainTables t = Look.of("g0 0 0 500;");
        t.setOperator(2, 0, 1);
        int[] operators = {0, 0, 0, 0, 2, 2, 2, 2};
        int[] values = {600, 601, 400, 399, 501, 502, 499, 498};
        for (int i = 0; i < values.length; i++) {
            due(t.refusal(operators[i], 0, 0, 0, values[i]), i % 2 == 0 ? 0 : 2);
        }
        refuses(t, ILLEGAL, "edit", 0, 0, 0, 0, 601);
        refuses(t, ILLEGAL, "edit", 0, 0, 0, 0, 399);
        due(t.edit(0, 0, 0, 0, 600), 500);
        due(t.edit(0, 0, 0, 0, 500), 600);
    }

    static void aDifferenceGreaterThanTheBudgetRefuses() {
        terms("3: this difference is greater than the budget that the operator has left.");
        GainTables t = Look.of("g0 0 0 500;");
        t.setOperator(1, 1, 60);
        refuses(t, ILLEGAL, "edit", 1, 0, 0, 0, 561);
        refuses(t, ILLEGAL, "edit", 1, 0, 0, 0, 439);
        due(t.refusal(1, 0, 0, 0, 561), 3);
        due(t.refusal(1, 0, 0, 0, 439), 3);
        due(t.refusal(1, 0, 0, 0, 560), 0);
        due(t.refusal(1, 0, 0, 0, 440), 0);
        due(t.edit(1, 0, 0, 0, 450), 500);
        due(t.refusal(1, 0, 0, 0, 439), 3);
        due(t.edit(1, 0, 0, 0, 440), 450);
        due(t.operator(1, 1), 0);
        due(t.refusal(1, 0, 0, 0, 441), 3);
        due(t.refusal(1, 0, 0, 0, 439), 3);
    }

    static void theBudgetBecomesLessByTheDifference() {
        terms("Otherwise the budget becomes less by the difference");
        GainTables t = new GainTables();
        t.edit(0, 0, 0, 0, 100);
        due(t.operator(0, 1), 900);
        t.edit(0, 0, 0, 0, 30);
        due(t.operator(0, 1), 830);
        t.edit(0, 0, 0, 0, 30);
        due(t.operator(0, 1), 830);
        refuses(t, ILLEGAL, "edit", 0, 0, 0, 0, 131);
        due(t.operator(0, 1), 830);
        due(t.operator(1, 1), 1000);
    }

    static void theDifferenceIsAddedToTheAccount() {
        terms(", and the difference (with its sign: new minus old) is added to the account of the"
                + " operator.");
        GainTables t = Look.of("g0 0 0 500;");
        t.edit(2, 0, 0, 0, 530);
        due(t.account(2), 30);
        t.edit(2, 0, 0, 0, 450);
        due(t.account(2), -50);
        t.edit(2, 0, 0, 0, 450);
        due(t.account(2), -50);
        t.edit(1, 0, 0, 0, 460);
        due(t.account(1), 10);
        due(t.account(2), -50);
        due(t.account(0), 0);
        due(t.account(3), 500);
    }

    static void bordersChangeTheAccountOfTheTable() {
        terms("The account 3 is the account of the table itself: it is changed by what gains become"
                + " more or less in all by other ways (borders that are added or removed");
        for (int axis = 0; axis <= 1; axis++) {
            GainTables t = Look.of("x500 1;y300 1;g0 0 0 1;g1 0 1 20;g0 1 2 300;g1 1 0 4000;");
            due(t.account(3), 4321);
            t.addBorder(axis, 900, 1, 1);
            int more = axis == 0 ? 4020 : 4300;
            due(t.account(3), 4321 + more);
            t.removeBorder(axis, 0);
            due(t.account(3), 4321);
            due(t.account(0) + t.account(1) + t.account(2), 0);
            due(t.account(4), t.account(3));
        }
    }

    static void textsChangeTheAccountOfTheTable() {
        terms(", the text, ");
        GainTables t = new GainTables();
        t.edit(0, 0, 0, 0, 60);
        due(Look.read(t, "g0 0 1 7;x500 1;"), 2);
        due(t.account(3), 14 - 60);
        due(t.account(0), 60);
        due(Look.read(t, ""), 0);
        due(t.account(3), -60);
        due(t.account(4), 0);
    }

    static void snapshotsChangeTheAccountOfTheTable() {
        terms("and snapshots), ");
        GainTables t = Look.of("x500 1;g0 0 0 8;g1 0 0 9;");
        t.take(0);
        due(t.account(3), 17);
        t.edit(1, 0, 0, 0, 100);
        t.removeBorder(0, 0);
        due(t.account(3), 8);
        due(t.restore(0), 2);
        due(t.account(3), 17 - 92);
        due(t.account(1), 92);
        due(t.account(4), 17);
    }

    static void theFourAccountsAreTheSumOfAllGains() {
        terms("so that the four accounts together are always the sum of all gains of all regions.");
        GainTables t = Look.of("x500 1;y300 1;g0 0 0 1;g1 0 1 20;g0 1 2 300;g1 1 0 4000;");
        String[] methods = {"edit", "scale", "addBorder", "take", "removeBorder", "edit", "restore",
            "lock", "setReach", "setOperator", "setMargin", "move", "sweep", "scale", "undo", "undo",
            "load", "undo", "undo", "undo", "undo", "undo"};
        int[][] arguments = {{0, 1, 1, 1, 90}, {1, 0, 110}, {0, 700, 1, 5}, {1}, {1, 0},
            {2, 0, 0, 2, 33}, {1}, {0, 0, 0, 1}, {0, 0, 3}, {2, 1, 9}, {4}, {700, 300}, {0, 10, 50},
            {1, 0, 0}, {}, {}, {}, {}, {}, {}, {}, {}};
        for (int i = 0; i < methods.length; i++) {
            int answer = new Call(methods[i], arguments[i]).on(t);
            holds(!Look.isError(answer) || i == methods.length - 1);
            due(t.account(0) + t.account(1) + t.account(2) + t.account(3), sum(t));
            due(t.account(4), sum(t));
        }
    }

    private static int sum(GainTables t) {
        int sum = 0;
        for (int column = 0; column <= t.axis(0, 0); column++) {
            for (int row = 0; row <= t.axis(1, 0); row++) {
                sum += t.region(column, row, 0) + t.region(column, row, 1) + t.region(column, row, 2);
            }
        }
        return sum;
    }

    static void setOperatorSetsTheStepOrTheBudget() {
        promise(5, "Sets the step or the budget of an operator.");
        GainTables t = new GainTables();
        t.setOperator(1, 0, 7);
        due(t.operator(1, 0), 7);
        due(t.operator(1, 1), 1000);
        due(t.refusal(1, 0, 0, 0, 8), 2);
        due(t.refusal(1, 0, 0, 0, 7), 0);
        t.setOperator(1, 1, 6);
        due(t.operator(1, 0), 7);
        due(t.operator(1, 1), 6);
        due(t.refusal(1, 0, 0, 0, 7), 3);
        due(t.operator(0, 0) + t.operator(2, 0), 200);
        due(t.operator(0, 1) + t.operator(2, 1), 2000);
        due(t.account(1), 0);
    }

    static void setOperatorIsAnAction() {
        promise(5, "This is an action.");
        isAction(new GainTables(), "setOperator", 0, 0, 9999);
        isAction(new GainTables(), "setOperator", 2, 1, 0);
        isAction(new GainTables(), "setOperator", 1, 0, 100);
    }

    static void setOperatorTakesOperators() {
        promise(5, "`operator`: 0 to 2");
        range(GainTables::new, 0, 0, 2, "setOperator", 0, 1, 9);
    }

    static void setOperatorTakesStepAndBudget() {
        promise(5, "`what`: 0 the step, 1 the budget that is left");
        range(GainTables::new, 1, 0, 1, "setOperator", 0, 0, 9);
        GainTables t = new GainTables();
        t.edit(0, 0, 0, 0, 70);
        due(t.setOperator(0, 1, 40), 930);
        due(t.operator(0, 1), 40);
        due(t.setOperator(0, 0, 41), 100);
        due(t.operator(0, 0), 41);
    }

    static void setOperatorTakesEachValueInItsRange() {
        promise(5, "`value`: in its range");
        range(GainTables::new, 2, 1, 9999, "setOperator", 0, 0, 9);
        range(GainTables::new, 2, 0, 99999, "setOperator", 0, 1, 9);
    }

    static void setOperatorReturnsThePreviousValue() {
        promise(5, "Returns the previous value");
        GainTables t = new GainTables();
        due(t.setOperator(0, 0, 1), 100);
        due(t.setOperator(0, 0, 9999), 1);
        due(t.setOperator(0, 0, 9999), 9999);
        due(t.setOperator(0, 1, 0), 1000);
        due(t.setOperator(0, 1, 99999), 0);
        due(t.setOperator(0, 1, 1), 99999);
    }

    static void setOperatorRefusesWhatIsOutOfRange() {
        promise(5, "; INVALID_ARGUMENT if an argument is out of range.");
        int[][] wrong = {{-1, 0, 5}, {3, 0, 5}, {0, -1, 5}, {0, 2, 5}, {0, 0, 0}, {0, 0, 10000},
            {0, 1, -1}, {0, 1, 100000}, {MAX, MAX, MAX}, {MIN, MIN, MIN}};
        for (int[] w : wrong) {
            refuses(new GainTables(), INVALID, "setOperator", w);
        }
    }

    static void editEditsAGain() {
        promise(6, "Edits a gain.");
        GainTables t = four();
        due(t.edit(2, 0, 1, 1, 64), 0);
        due(t.region(0, 1, 1), 64);
        due(t.operator(2, 3), 1);
        due(t.operator(2, 1), 936);
        due(t.account(2), 64);
        due(t.valueAt(0, 500, 1), 64);
    }

    static void editIsAnAction() {
        promise(6, "This is an action.");
        isAction(four(), "edit", 0, 1, 1, 2, 100);
        isAction(four(), "edit", 0, 1, 1, 2, 0);
    }

    static void editTakesOperators() {
        promise(6, "`operator`: 0 to 2");
        range(OperatorSentences::four, 0, 0, 2, "edit", 1, 0, 0, 0, 5);
    }

    static void editTakesColumns() {
        promise(6, "`column`: a strip of the axis 0");
        range(() -> Look.of("x1 0;x2 0;y3 0;"), 1, 0, 2, "edit", 1, 0, 0, 0, 5);
        range(GainTables::new, 1, 0, 0, "edit", 1, 0, 0, 0, 5);
    }

    static void editTakesRows() {
        promise(6, "`row`: a strip of the axis 1");
        range(() -> Look.of("x1 0;y2 0;y3 0;"), 2, 0, 2, "edit", 1, 0, 0, 0, 5);
        range(GainTables::new, 2, 0, 0, "edit", 1, 0, 0, 0, 5);
    }

    static void editTakesGains() {
        promise(6, "`gain`: 0 to 2");
        range(OperatorSentences::four, 3, 0, 2, "edit", 1, 0, 0, 0, 5);
    }

    static void editTakesValues() {
        promise(6, "`value`: 0 to 9999");
        range(() -> Look.rich("x500 1;"), 4, 0, 9999, "edit", 0, 0, 0, 0, 5);
        GainTables t = Look.rich("");
        due(t.edit(0, 0, 0, 0, 9999), 0);
        due(t.edit(0, 0, 0, 0, 0), 9999);
        due(t.operator(0, 1), 99999 - 2 * 9999);
    }

    static void editReturnsThePreviousGain() {
        promise(6, "Returns the previous gain");
        GainTables t = four();
        int previous = 0;
        for (int value : new int[] {100, 50, 50, 149, 50, 0, 0}) {
            due(t.edit(0, 1, 0, 1, value), previous);
            previous = value;
        }
        due(t.edit(0, 1, 0, 2, 1), 0);
        due(t.edit(0, 0, 0, 1, 1), 0);
    }

    static void editRefusesWhatIsOutOfRange() {
        promise(6, "; INVALID_ARGUMENT if an argument is out of range");
        GainTables t = four();
        int[][] wrong = {{-1, 0, 0, 0, 5}, {3, 0, 0, 0, 5}, {0, -1, 0, 0, 5}, {0, 2, 0, 0, 5},
            {0, 0, -1, 0, 5}, {0, 0, 2, 0, 5}, {0, 0, 0, -1, 5}, {0, 0, 0, 3, 5}, {0, 0, 0, 0, -1},
            {0, 0, 0, 0, 10000}, {MAX, MAX, MAX, MAX, MAX}, {MIN, MIN, MIN, MIN, MIN}};
        for (int[] w : wrong) {
            refuses(t, INVALID, "edit", w);
        }
    }

    static void editIsRefused() {
        promise(6, "; ILLEGAL_STATE if the edit is refused.");
        GainTables t = four();
        t.lock(1, 0, 0, 1);
        t.setOperator(2, 1, 9);
        refuses(t, ILLEGAL, "edit", 0, 0, 0, 0, 0);
        refuses(t, ILLEGAL, "edit", 0, 1, 0, 0, 101);
        refuses(t, ILLEGAL, "edit", 2, 1, 0, 0, 10);
        due(t.edit(2, 1, 0, 0, 9), 0);
        due(t.edit(0, 1, 0, 0, 109), 9);
        due(t.edit(1, 0, 0, 0, 0), 0);
    }

    static void scaleEditsByColumnsThenRows() {
        promise(7, "Edits a gain of all regions, by ascending columns, in each by ascending rows");
        int[][] budgets = {{9, 0, 0, 0}, {19, 0, 0, 0}, {20, 1, 0, 0}, {29, 1, 0, 0}, {30, 1, 1, 0},
            {39, 1, 1, 0}, {40, 1, 1, 1}};
        for (int[] b : budgets) {
            GainTables t = Look.of("x500 1;y300 1;g0 0 1 10;g0 1 1 10;g1 0 1 10;g1 1 1 10;");
            t.setOperator(0, 1, b[0]);
            due(t.scale(0, 1, 200), b[0] / 10);
            due(t.region(0, 0, 1), b[0] >= 10 ? 20 : 10);
            due(t.region(0, 1, 1), b[1] == 1 ? 20 : 10);
            due(t.region(1, 0, 1), b[2] == 1 ? 20 : 10);
            due(t.region(1, 1, 1), b[3] == 1 ? 20 : 10);
        }
    }

    static void scaleEditsOneGainAlone() {
        promise(7, "Edits a gain of all regions");
        GainTables t = Look.of("x500 1;g0 0 0 10;g0 0 1 20;g0 0 2 30;g1 0 0 40;g1 0 1 50;g1 0 2 60;");
        due(t.scale(0, 1, 200), 2);
        int[][] due = {{10, 40, 30}, {40, 100, 60}};
        for (int column = 0; column <= 1; column++) {
            for (int gain = 0; gain <= 2; gain++) {
                due(t.region(column, 0, gain), due[column][gain]);
            }
        }
    }

    static void scaleReachesAllFortyNineRegions() {
        promise(7, "Edits a gain of all regions");
        GainTables t = Look.of("g0 0 2 3;x1 0;x2 0;x3 0;x4 0;x5 0;x6 0;y1 0;y2 0;y3 0;y4 0;y5 0;y6 0;");
        due(t.scale(0, 2, 200), 49);
        for (int column = 0; column <= 6; column++) {
            for (int row = 0; row <= 6; row++) {
                due(t.region(column, row, 2), 6);
            }
        }
        due(t.operator(0, 1), 1000 - 49 * 3);
        due(t.operator(0, 3), 49);
    }

    static void scaleRoundsDown() {
        promise(7, ": each to gain * percent / 100");
        int[] gains = {0, 1, 1, 99, 99, 3, 7, 55};
        int[] percents = {1000, 99, 100, 50, 199, 33, 110, 0};
        int[] due = {0, 0, 1, 49, 197, 0, 7, 0};
        for (int i = 0; i < gains.length; i++) {
            GainTables t = Look.of("g0 0 0 " + gains[i] + ";");
            due(t.scale(0, 0, percents[i]), 1);
            due(t.region(0, 0, 0), due[i]);
        }
    }

    static void scaleGoesTo9999AtMost() {
        promise(7, ", but at most 9999.");
        int[] gains = {9999, 9999, 5000, 5000, 1000, 999, 4999};
        int[] percents = {1000, 101, 200, 199, 1000, 1000, 200};
        int[] due = {9999, 9999, 9999, 9950, 9999, 9990, 9998};
        for (int i = 0; i < gains.length; i++) {
            GainTables t = Look.rich("g0 0 0 " + gains[i] + ";");
            due(t.scale(0, 0, percents[i]), 1);
            due(t.region(0, 0, 0), due[i]);
            due(t.operator(0, 1), 99999 - due[i] + gains[i]);
        }
    }

    static void scaleLeavesOutRefusedEdits() {
        promise(7, "Edits that are refused when their turn comes are left out.");
        GainTables t = Look.of("x100 0;x200 0;x300 0;x400 0;g0 0 0 50;g1 0 0 101;g2 0 0 30;g3 0 0 40;"
                + "g4 0 0 10;");
        t.lock(2, 0, 0, 1);
        t.setOperator(0, 1, 45);
        due(t.scale(0, 0, 200), 2);
        int[] due = {50, 101, 60, 40, 20};
        for (int column = 0; column <= 4; column++) {
            due(t.region(column, 0, 0), due[column]);
        }
        due(t.operator(0, 1), 5);
        due(t.operator(0, 3), 2);
        due(t.account(0), 40);
    }

    static void scaleIsOneAction() {
        promise(7, "This is one action.");
        isAction(Look.of("x500 1;y300 1;g0 0 1 10;g0 1 1 10;g1 0 1 10;g1 1 1 10;"), "scale", 0, 1, 50);
        isAction(four(), "scale", 0, 0, 1000);
        GainTables locked = new GainTables();
        locked.lock(1, 0, 0, 1);
        isAction(locked, "scale", 0, 0, 50);
        due(locked.scale(0, 0, 50), 0);
        due(locked.count(9), 2);
    }

    static void scaleTakesOperators() {
        promise(7, "`operator`: 0 to 2");
        range(OperatorSentences::four, 0, 0, 2, "scale", 1, 0, 50);
    }

    static void scaleTakesGains() {
        promise(7, "`gain`: 0 to 2");
        range(OperatorSentences::four, 1, 0, 2, "scale", 1, 0, 50);
    }

    static void scaleTakesPercents() {
        promise(7, "`percent`: 0 to 1000");
        range(OperatorSentences::four, 2, 0, 1000, "scale", 1, 0, 50);
        GainTables t = Look.of("g0 0 0 11;");
        due(t.scale(0, 0, 1000), 1);
        due(t.region(0, 0, 0), 110);
        t.setOperator(0, 0, 9999);
        due(t.scale(0, 0, 0), 1);
        due(t.region(0, 0, 0), 0);
    }

    static void scaleReturnsTheEditsThatWereCarriedOut() {
        promise(7, "Returns the number of edits that were carried out");
        GainTables t = Look.of("x100 0;x200 0;g0 0 0 60;g1 0 0 101;g2 0 0 100;");
        due(t.scale(0, 0, 200), 2);
        due(t.scale(0, 0, 200), 0);
        due(t.operator(0, 3), 2);
        t.lock(1, 0, 0, 1);
        due(t.scale(0, 0, 90), 2);
        due(t.scale(1, 0, 99), 3);
    }

    static void scaleCountsEditsThatChangeNothing() {
        promise(7, " (also those that change nothing)");
        GainTables t = Look.of("x100 0;y200 0;g0 0 0 60;");
        due(t.scale(0, 0, 100), 4);
        due(t.scale(0, 1, 1000), 4);
        due(t.operator(0, 3), 8);
        due(t.operator(0, 1), 1000);
        t.setOperator(0, 1, 0);
        due(t.scale(0, 0, 100), 4);
        due(t.scale(0, 0, 99), 3);
    }

    static void scaleRefusesWhatIsOutOfRange() {
        promise(7, "; INVALID_ARGUMENT if an argument is out of range.");
        GainTables t = Look.of("x500 1;g0 0 0 60;");
        int[][] wrong = {{-1, 0, 50}, {3, 0, 50}, {0, -1, 50}, {0, 3, 50}, {0, 0, -1}, {0, 0, 1001},
            {MIN, MIN, MIN}, {MAX, MAX, MAX}};
        for (int[] w : wrong) {
            refuses(t, INVALID, "scale", w);
        }
    }

    static void lockTakesAndGivesBack() {
        promise(8, "Lets an operator take or give back the lock of a region.");
        GainTables t = four();
        for (int operator = 0; operator <= 2; operator++) {
            due(t.lock(operator, 1, 0, 1), 1);
            due(t.region(1, 0, 3), operator);
            due(t.region(0, 0, 3), NONE);
            due(t.region(1, 1, 3), NONE);
            due(t.lock(operator, 1, 0, 0), 0);
            due(t.region(1, 0, 3), NONE);
        }
    }

    static void lockIsAnAction() {
        promise(8, "This is an action.");
        isAction(four(), "lock", 2, 1, 1, 1);
        GainTables t = four();
        t.lock(2, 1, 1, 1);
        isAction(t, "lock", 2, 1, 1, 0);
    }

    static void lockTakesOperators() {
        promise(8, "`operator`: 0 to 2");
        range(OperatorSentences::four, 0, 0, 2, "lock", 1, 0, 0, 1);
        refuses(four(), INVALID, "lock", NONE, 0, 0, 0);
    }

    static void lockTakesColumns() {
        promise(8, "`column`: a strip of the axis 0");
        range(() -> Look.of("x1 0;x2 0;y3 0;"), 1, 0, 2, "lock", 1, 0, 0, 1);
        range(GainTables::new, 1, 0, 0, "lock", 1, 0, 0, 1);
    }

    static void lockTakesRows() {
        promise(8, "`row`: a strip of the axis 1");
        range(() -> Look.of("x1 0;y2 0;y3 0;"), 2, 0, 2, "lock", 1, 0, 0, 1);
        range(GainTables::new, 2, 0, 0, "lock", 1, 0, 0, 1);
    }

    static void lockTakesOneAndZero() {
        promise(8, "`locked`: 1 to take it, 0 to give it back");
        range(OperatorSentences::four, 3, 0, 1, "lock", 1, 0, 0, 1);
        GainTables t = four();
        due(t.lock(1, 0, 0, 0), ILLEGAL);
        due(t.lock(1, 0, 0, 1), 1);
        due(t.lock(1, 0, 0, 0), 0);
    }

    static void lockReturnsHowManyTheOperatorHas() {
        promise(8, "Returns the number of regions whose lock the operator has then");
        GainTables t = Look.of("x1 0;x2 0;x3 0;x4 0;x5 0;x6 0;y1 0;y2 0;y3 0;y4 0;y5 0;y6 0;");
        due(t.lock(1, 3, 3, 1), 1);
        int held = 0;
        for (int region = 0; region < 49; region++) {
            if (region != 24) {
                held++;
                due(t.lock(0, region / 7, region % 7, 1), held);
            }
        }
        due(held, 48);
        for (int region = 0; region < 49; region++) {
            if (region != 24) {
                held--;
                due(t.lock(0, region / 7, region % 7, 0), held);
            }
        }
        due(t.lock(1, 3, 3, 0), 0);
    }

    static void lockRefusesWhatIsOutOfRange() {
        promise(8, "; INVALID_ARGUMENT if an argument is out of range");
        GainTables t = four();
        int[][] wrong = {{-1, 0, 0, 1}, {3, 0, 0, 1}, {0, -1, 0, 1}, {0, 2, 0, 1}, {0, 0, -1, 1},
            {0, 0, 2, 1}, {0, 0, 0, -1}, {0, 0, 0, 2}, {MIN, MIN, MIN, MIN}, {MAX, MAX, MAX, MAX}};
        for (int[] w : wrong) {
            refuses(t, INVALID, "lock", w);
        }
    }

    static void lockRefusesWhatIsNotFree() {
        promise(8, "; ILLEGAL_STATE if it is to be taken and is not free");
        GainTables t = four();
        t.lock(1, 0, 1, 1);
        refuses(t, ILLEGAL, "lock", 0, 0, 1, 1);
        refuses(t, ILLEGAL, "lock", 2, 0, 1, 1);
        due(t.lock(0, 0, 0, 1), 1);
    }

    static void lockRefusesWhatTheOperatorItselfHas() {
        promise(8, " (also if the operator itself has it)");
        for (int operator = 0; operator <= 2; operator++) {
            GainTables t = four();
            t.lock(operator, 0, 1, 1);
            refuses(t, ILLEGAL, "lock", operator, 0, 1, 1);
        }
    }

    static void lockRefusesToGiveBackWhatTheOperatorDoesNotHave() {
        promise(8, ", or to be given back and the operator does not have it.");
        GainTables t = four();
        t.lock(1, 0, 1, 1);
        refuses(t, ILLEGAL, "lock", 0, 0, 1, 0);
        refuses(t, ILLEGAL, "lock", 2, 0, 1, 0);
        refuses(t, ILLEGAL, "lock", 1, 1, 1, 0);
        due(t.lock(1, 0, 1, 0), 0);
        refuses(t, ILLEGAL, "lock", 1, 0, 1, 0);
    }
}
