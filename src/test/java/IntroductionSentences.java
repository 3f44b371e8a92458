/** What the introduction says of the whole. */
final class IntroductionSentences extends Sentences {
    private static final int CALLS = 512;

    static void regionsOnTwoAxesHaveThreeGainsEach() {
        introduction("A gain scheduler of a controller: regions on two axes with three gains each,");
        GainTables t = Look.rich("x400 0;y300 0;y700 0;");
        due(t.count(0), 6);
        for (int column = 0; column <= 1; column++) {
            for (int row = 0; row <= 2; row++) {
                for (int gain = 0; gain <= 2; gain++) {
                    due(t.edit(0, column, row, gain, 1 + column * 100 + row * 10 + gain), 0);
                }
            }
        }
        for (int column = 0; column <= 1; column++) {
            for (int row = 0; row <= 2; row++) {
                for (int gain = 0; gain <= 2; gain++) {
                    int due = 1 + column * 100 + row * 10 + gain;
                    due(t.region(column, row, gain), due);
                    due(t.valueAt(column * 400, row * 400, gain), due);
                }
            }
        }
    }

    static void someBordersBlendAndSomeStick() {
        introduction("borders at which gains are blended and borders that stick,");
        GainTables blends = Look.of("x500 10~;g0 0 0 100;g1 0 0 200;");
        blends.move(495, 500);
        due(blends.gain(0, 0), 125);
        due(blends.count(4), 0);
        GainTables sticks = Look.of("x500 10;g0 0 0 100;g1 0 0 200;");
        due(sticks.gain(0, 0), 200);
        sticks.move(495, 500);
        due(sticks.gain(0, 0), 200);
        sticks.move(489, 500);
        due(sticks.gain(0, 0), 100);
        sticks.move(509, 500);
        due(sticks.gain(0, 0), 100);
        sticks.move(510, 500);
        due(sticks.gain(0, 0), 200);
    }

    static void aDeadMarginLetsSmallMovesBeIgnored() {
        introduction("dead margins that let small moves be ignored,");
        GainTables t = new GainTables();
        t.setMargin(5);
        due(t.move(504, 496), NONE);
        due(t.count(2) + t.count(3), 1000);
        due(t.move(505, 496), 0);
        due(t.count(2), 505);
        due(t.count(3), 496);
    }

    static void operatorsEditGainsWithStepsBudgetsAndLocks() {
        introduction("edits of gains by operators with steps, budgets and locks,");
        GainTables t = new GainTables();
        due(t.edit(1, 0, 0, 0, 90), 0);
        due(t.operator(1, 1), 910);
        due(t.account(1), 90);
        refuses(t, ILLEGAL, "edit", 1, 0, 0, 0, 191);
        t.setOperator(1, 1, 89);
        refuses(t, ILLEGAL, "edit", 1, 0, 0, 0, 180);
        due(t.edit(1, 0, 0, 0, 179), 90);
        due(t.lock(2, 0, 0, 1), 1);
        refuses(t, ILLEGAL, "edit", 0, 0, 0, 0, 180);
        due(t.edit(2, 0, 0, 0, 180), 179);
    }

    static void theTrailTellsWhatTheGainsWere() {
        introduction("a trail of what the gains were,");
        GainTables t = new GainTables();
        for (int move = 0; move < 3; move++) {
            t.edit(0, 0, 0, 1, 30 * move);
            t.move(move, 9);
        }
        due(t.count(6), 3);
        for (int back = 0; back < 3; back++) {
            due(t.trail(back, 0), 2 - back);
            due(t.trail(back, 5), 30 * (2 - back));
        }
    }

    static void bordersAreSweptAndChatter() {
        introduction("sweeps and chatter at borders,");
        GainTables t = Look.of("x400 3;x600 3;");
        due(t.sweep(0, 0, 10), 1);
        due(t.sweep(0, 1000, 10), 2);
        due(t.chatter(0, 600, 10, 9), 8);
        due(t.chatter(0, 600, 2, 9), 0);
    }

    static void snapshotsBringTablesBack() {
        introduction("snapshots, and tables");
        GainTables t = Look.of("x400 3;y600 8~;g1 1 2 70;");
        t.take(2);
        String look = Look.all(t).split("\n", 2)[1];
        t.removeBorder(0, 0);
        t.setReach(1, 0, 9);
        t.edit(0, 0, 0, 0, 5);
        t.undo();
        due(t.restore(2), 4);
        same(Look.all(t).split("\n", 2)[1], look);
    }

    static void tablesAreReadFromAText() {
        introduction("and tables that are read from a text.");
        GainTables t = new GainTables();
        Look.write(t, "x400 3; y600 8~; g1 1 2 70;");
        due(t.load(), 3);
        due(t.border(0, 0, 0), 400);
        due(t.border(0, 0, 1), 0);
        due(t.border(0, 0, 2), 3);
        due(t.border(1, 0, 0), 600);
        due(t.border(1, 0, 1), 1);
        due(t.border(1, 0, 2), 8);
        due(t.region(1, 1, 2), 70);
    }

    static void allAnswersUpToThe512thAreAsDue() {
        introduction("An object is used for at most 512 calls after it has been made; what later"
                + " calls answer is free.");
        GainTables moved = new GainTables();
        for (int call = 1; call < CALLS; call++) {
            due(moved.move(call, 1000 - call), 0);
        }
        due(moved.count(8), CALLS - 1);
        GainTables swept = new GainTables();
        swept.addBorder(0, 500, 0, 0);
        for (int call = 2; call < CALLS; call++) {
            due(swept.sweep(0, call % 2 == 0 ? 0 : 1000, 1), 1);
        }
        due(swept.count(8), 500 + 1000 * (CALLS - 3));
        GainTables filled = new GainTables();
        for (int call = 1; call < CALLS; call++) {
            due(filled.append(255), call <= 160 ? call : FULL);
        }
        due(filled.count(10), 160);
    }
}
