/** The terms of moves and the trail, and promises 9 to 11: setMargin, move, sweep. */
final class MoveSentences extends Sentences {
    private static GainTables withMargin(int margin) {
        GainTables t = new GainTables();
        t.setMargin(margin);
        return t;
    }

    static void aMoveByLessThanTheMarginIsIgnored() {
        terms("A move to a place is ignored if both coordinates differ from those of the point by"
                + " less than the dead margin");
        for (int margin : new int[] {1, 2, 25, 50}) {
            int less = margin - 1;
            int[][] places = {{500, 500}, {500 + less, 500}, {500, 500 - less},
                {500 - less, 500 + less}, {500 + less, 500 - less}};
            for (int[] place : places) {
                GainTables t = withMargin(margin);
                due(t.effect(place[0], place[1]), 0);
                due(t.move(place[0], place[1]), NONE);
                due(t.count(7), 1);
                due(t.count(8) + t.count(6), 0);
                due(t.count(2) + t.count(3), 1000);
            }
        }
    }

    static void aMoveByTheMarginIsNotIgnored() {
        terms("both coordinates differ from those of the point by less than the dead margin");
        for (int margin : new int[] {1, 2, 25, 50}) {
            int[][] places = {{500 + margin, 500}, {500 - margin, 500}, {500, 500 + margin},
                {500, 500 - margin}, {500 + margin, 500 - margin}};
            for (int[] place : places) {
                GainTables t = withMargin(margin);
                due(t.effect(place[0], place[1]), 1);
                due(t.move(place[0], place[1]), 0);
                due(t.count(7), 0);
                due(t.count(8) + t.count(6), 2);
                due(t.count(2), place[0]);
                due(t.count(3), place[1]);
            }
        }
    }

    static void theMarginGoesFromZeroTo50() {
        terms(", 0 to 50 (at first 0).");
        due(new GainTables().count(1), 0);
        range(GainTables::new, 0, 0, 50, "setMargin", 3);
    }

    static void theMarginZeroIgnoresNothing() {
        terms(", 0 to 50 (at first 0).");
        GainTables t = new GainTables();
        due(t.move(500, 500), 0);
        due(t.count(8), 1);
        due(t.count(7), 0);
        t.setMargin(50);
        due(t.move(500, 500), NONE);
        t.setMargin(0);
        due(t.move(500, 500), 0);
    }

    static void anotherMovePutsThePointThere() {
        terms("Otherwise the point is there, the active zones change as told, and an entry is put"
                + " into the trail.");
        GainTables t = Look.of("x400 50;y600 0;");
        t.move(350, 599);
        due(t.count(2), 350);
        due(t.count(3), 599);
        due(t.count(4), 1);
        due(t.count(5), 0);
        due(t.count(6), 1);
        t.move(349, 600);
        due(t.count(2), 349);
        due(t.count(3), 600);
        due(t.count(4), 0);
        due(t.count(5), 1);
        due(t.count(6), 2);
        t.move(0, 1000);
        due(t.count(2), 0);
        due(t.count(3), 1000);
    }

    static void anEntryTellsThePlaceBehindTheMove() {
        terms("An entry consists of the coordinates, the active zones, and the values of the three"
                + " gains behind the move");
        GainTables t = Look.of("x400 50;y600 5~;g0 0 0 1;g1 0 1 22;g0 1 2 333;g1 1 2 30;");
        t.move(390, 601);
        int[] stuck = {390, 601, 1, 0, 0, 8, 18};
        t.move(0, 1000);
        int[] corner = {0, 1000, 0, 0, 0, 0, 333};
        for (int what = 0; what <= 6; what++) {
            due(t.trail(1, what), stuck[what]);
            due(t.trail(0, what), corner[what]);
        }
        t.edit(0, 0, 1, 2, 300);
        due(t.trail(0, 6), 333);
        t.addBorder(0, 600, 0, 0);
        due(t.trail(1, 2), 1);
    }

    static void theJumpIsTheGreatestDifference() {
        terms(", and of the jump: the greatest of the differences, without sign, between the values"
                + " of a gain ahead of the move and behind it.");
        String[] gains = {"g0 0 0 90;g1 0 1 40;g1 0 2 30;", "g1 0 0 40;g0 0 1 90;g0 0 2 30;",
            "g0 0 0 40;g1 0 1 30;g0 0 2 90;"};
        for (String gain : gains) {
            GainTables t = Look.of("x500 0;" + gain);
            due(t.move(499, 0), 90);
            due(t.trail(0, 7), 90);
            due(t.move(500, 0), 90);
            due(t.trail(0, 7), 90);
            due(t.move(501, 0), 0);
            due(t.trail(0, 7), 0);
        }
    }

    static void theJumpIsOfTheValuesRoundedDown() {
        terms("the differences, without sign, between the values of a gain ahead of the move and"
                + " behind it.");
        GainTables t = Look.of("x500 2~;g0 0 0 3;g1 0 0 5;");
        int[] places = {498, 499, 500, 501, 502};
        int[] jumps = {1, 0, 1, 0, 1};
        for (int i = 0; i < 5; i++) {
            due(t.move(places[i], 0), jumps[i]);
        }
    }

    static void whatHappensBetweenMovesIsNoJump() {
        terms("between the values of a gain ahead of the move and behind it.");
        GainTables t = Look.of("x500 5;g0 0 0 70;");
        due(t.move(0, 0), 70);
        t.edit(0, 0, 0, 0, 20);
        due(t.move(1, 0), 0);
        t.addBorder(1, 600, 0, 0);
        t.edit(0, 0, 0, 0, 100);
        due(t.move(1, 700), 80);
    }

    static void theTrailKeepsTwentyEntries() {
        terms("The trail keeps the latest 20 entries.");
        GainTables t = new GainTables();
        for (int moves = 1; moves <= 65; moves++) {
            t.move(moves, 1000 - moves);
            int kept = Math.min(moves, 20);
            due(t.count(6), kept);
            due(t.trail(0, 0), moves);
            due(t.trail(kept - 1, 0), moves - kept + 1);
            due(t.trail(kept - 1, 1), 1000 - (moves - kept + 1));
            due(t.trail(kept, 0), NONE);
        }
        for (int back = 0; back < 20; back++) {
            due(t.trail(back, 0), 65 - back);
        }
    }

    static void ignoredMovesAreNotInTheTrail() {
        terms("The trail keeps the latest 20 entries.");
        GainTables t = withMargin(9);
        t.move(0, 0);
        for (int i = 0; i < 30; i++) {
            due(t.move(8, 8), NONE);
        }
        due(t.count(6), 1);
        due(t.trail(0, 0), 0);
        due(t.trail(1, 0), NONE);
    }

    static void setMarginSetsTheMargin() {
        promise(9, "Sets the dead margin.");
        GainTables t = new GainTables();
        for (int margin : new int[] {50, 1, 0, 17}) {
            t.setMargin(margin);
            due(t.count(1), margin);
            due(t.effect(500 + margin, 500), 1);
            due(t.effect(500, 500), margin == 0 ? 1 : 0);
        }
    }

    static void setMarginIsAnAction() {
        promise(9, "This is an action.");
        isAction(new GainTables(), "setMargin", 50);
        isAction(new GainTables(), "setMargin", 0);
    }

    static void setMarginTakesMargins() {
        promise(9, "`margin`: 0 to 50");
        range(() -> withMargin(7), 0, 0, 50, "setMargin", 3);
    }

    static void setMarginReturnsThePreviousMargin() {
        promise(9, "Returns the previous margin");
        GainTables t = new GainTables();
        due(t.setMargin(50), 0);
        due(t.setMargin(50), 50);
        due(t.setMargin(0), 50);
        due(t.setMargin(1), 0);
    }

    static void setMarginRefusesWhatIsOutOfRange() {
        promise(9, "; INVALID_ARGUMENT if margin is out of range.");
        for (int margin : new int[] {-1, 51, MIN, MAX, -50}) {
            refuses(withMargin(20), INVALID, "setMargin", margin);
        }
    }

    static void moveMovesThePoint() {
        promise(10, "Moves the point.");
        GainTables t = new GainTables();
        int[][] places = {{0, 0}, {1000, 0}, {1000, 1000}, {0, 1000}, {1, 999}, {1, 999}};
        for (int i = 0; i < places.length; i++) {
            t.move(places[i][0], places[i][1]);
            due(t.count(2), places[i][0]);
            due(t.count(3), places[i][1]);
            due(t.count(8), i + 1);
        }
    }

    static void moveIsAnAction() {
        promise(10, "This is an action");
        isAction(Look.of("x400 50;g0 0 0 5;"), "move", 0, 9);
        isAction(Look.of("x400 50;g0 0 0 5;"), "move", 500, 500);
    }

    static void anIgnoredMoveIsAnActionToo() {
        promise(10, ", also if the move is ignored.");
        GainTables t = withMargin(50);
        due(t.move(500, 501), NONE);
        due(t.count(9), 2);
        due(t.count(7), 1);
        due(t.undo(), 1);
        due(t.count(7), 0);
        due(t.count(1), 50);
        due(t.undo(), 0);
        due(t.count(1), 0);
    }

    static void moveTakesColumns() {
        promise(10, "`x`: 0 to 1000");
        range(GainTables::new, 0, 0, 1000, "move", 5, 5);
    }

    static void moveTakesRows() {
        promise(10, "`y`: 0 to 1000");
        range(GainTables::new, 1, 0, 1000, "move", 5, 5);
    }

    static void moveReturnsTheJump() {
        promise(10, "Returns the jump");
        GainTables t = Look.of("x500 0;g0 0 1 9999;");
        due(t.move(0, 0), 9999);
        due(t.move(0, 1000), 0);
        due(t.move(1000, 1000), 9999);
    }

    static void moveRefusesWhatIsOutOfRange() {
        promise(10, "; INVALID_ARGUMENT if an argument is out of range");
        int[][] wrong = {{-1, 500}, {1001, 500}, {500, -1}, {500, 1001}, {MIN, MIN}, {MAX, MAX},
            {500, MIN}, {MAX, 500}};
        for (int[] w : wrong) {
            refuses(withMargin(50), INVALID, "move", w);
        }
    }

    static void moveReturnsNoneIfItIsIgnored() {
        promise(10, "; NONE if the move is ignored.");
        GainTables t = withMargin(2);
        due(t.move(501, 499), NONE);
        due(t.move(501, 498), 0);
        due(t.move(502, 497), NONE);
        due(t.move(499, 498), 0);
        due(t.count(7), 2);
        due(t.count(8), 2);
    }

    static void sweepGoesByStepsAndThenByWhatIsLeft() {
        promise(11, "Moves the point along an axis to a coordinate: again and again by a step toward"
                + " it, and the last time by what is left.");
        GainTables t = new GainTables();
        t.sweep(0, 523, 10);
        trail(t, 0, 523, 520, 510);
        t.sweep(0, 499, 8);
        trail(t, 0, 499, 507, 515, 523);
        t.sweep(1, 530, 10);
        trail(t, 1, 530, 520, 510);
        t.sweep(1, 529, 1000);
        trail(t, 1, 529, 530);
        t.sweep(1, 0, 529);
        trail(t, 1, 0, 529);
        t.sweep(1, 1000, 999);
        trail(t, 1, 1000, 999, 0);
        due(t.count(8), 3 + 3 + 3 + 1 + 1 + 2);
        due(t.count(2), 499);
    }

    private static void trail(GainTables t, int axis, int... places) {
        for (int back = 0; back < places.length; back++) {
            due(t.trail(back, axis), places[back]);
        }
    }

    static void aSweepOverTheWholeAxisIsAThousandMoves() {
        promise(11, "again and again by a step toward it");
        GainTables t = Look.of("x1 0;x999 0;");
        t.move(0, 0);
        due(t.sweep(0, 1000, 1), 2);
        due(t.count(8), 1001);
        due(t.sweep(0, 0, 1), 2);
        due(t.count(8), 2001);
        due(t.count(2), 0);
        due(t.count(6), 20);
        due(t.trail(19, 0), 19);
    }

    static void theOtherCoordinateStays() {
        promise(11, "Moves the point along an axis");
        GainTables t = new GainTables();
        t.move(123, 456);
        t.sweep(0, 0, 50);
        due(t.trail(0, 1), 456);
        due(t.trail(1, 1), 456);
        due(t.trail(1, 0), 23);
        t.sweep(1, 0, 50);
        due(t.trail(0, 0), 0);
        due(t.trail(1, 1), 6);
    }

    static void movesOfASweepCanBeIgnored() {
        promise(11, "Each of these moves can be ignored, too");
        GainTables t = withMargin(25);
        due(t.sweep(0, 560, 10), 0);
        trail(t, 0, 560, 530, NONE);
        due(t.count(7), 4);
        due(t.count(8), 2);
        due(t.sweep(0, 584, 24), 0);
        due(t.count(2), 560);
        due(t.count(7), 5);
        due(t.sweep(0, 584, 1), 0);
        due(t.count(2), 560);
        due(t.count(7), 29);
        due(t.sweep(0, 585, 25), 0);
        due(t.count(2), 585);
    }

    static void theNextMoveBeginsWhereTheLastOneWouldHaveLed() {
        promise(11, "; the next one begins where the last one would have led.");
        GainTables t = withMargin(10);
        t.sweep(1, 465, 6);
        trail(t, 1, 465, 476, 488, NONE);
        due(t.count(7), 3);
    }

    static void sweepIsOneAction() {
        promise(11, "This is one action.");
        isAction(Look.of("x400 50;"), "sweep", 0, 0, 7);
        isAction(Look.of("x400 50;"), "sweep", 1, 1000, 1000);
        GainTables t = withMargin(50);
        isAction(t, "sweep", 0, 520, 3);
        due(t.sweep(0, 520, 3), 0);
        due(t.count(9), 2);
        due(t.count(8), 0);
    }

    static void sweepTakesTheAxes() {
        promise(11, "`axis`: 0 or 1");
        range(GainTables::new, 0, 0, 1, "sweep", 0, 5, 5);
    }

    static void sweepTakesCoordinates() {
        promise(11, "`to`: 0 to 1000");
        range(GainTables::new, 1, 0, 1000, "sweep", 1, 5, 5);
    }

    static void sweepTakesSteps() {
        promise(11, "`step`: 1 to 1000");
        range(GainTables::new, 2, 1, 1000, "sweep", 1, 5, 5);
    }

    static void sweepReturnsTheChangesOfTheZone() {
        promise(11, "Returns how often the active zone of the axis changed");
        GainTables t = Look.of("x400 20;x600 20~;x800 20;y500 0;");
        due(t.count(4), 1);
        due(t.sweep(0, 819, 1), 0);
        due(t.sweep(0, 820, 1), 1);
        due(t.sweep(0, 0, 3), 2);
        due(t.sweep(0, 419, 7), 0);
        due(t.sweep(0, 1000, 7), 2);
        due(t.sweep(1, 499, 1), 1);
        due(t.sweep(1, 0, 1), 0);
        due(t.sweep(1, 500, 9), 1);
    }

    static void theZoneOfTheOtherAxisIsNotCounted() {
        promise(11, "the active zone of the axis changed");
        GainTables t = Look.of("y500 50;");
        t.move(500, 450);
        due(t.sweep(0, 0, 1), 0);
        due(t.sweep(1, 449, 1), 1);
    }

    static void aChangeOverSeveralBordersInOneMoveCountsOnce() {
        promise(11, " (a change over several borders in one move counts once)");
        GainTables t = Look.of("x100 0;x200 0;x300 0;x700 0;");
        due(t.sweep(0, 0, 1000), 1);
        due(t.count(4), 0);
        due(t.sweep(0, 1000, 250), 3);
        due(t.sweep(0, 0, 500), 2);
        due(t.sweep(0, 1000, 500), 2);
        due(t.count(4), 4);
        due(t.sweep(0, 0, 50), 4);
    }

    static void sweepRefusesWhatIsOutOfRange() {
        promise(11, "; INVALID_ARGUMENT if an argument is out of range");
        int[][] wrong = {{-1, 0, 5}, {2, 0, 5}, {0, -1, 5}, {0, 1001, 5}, {0, 0, 0}, {0, 0, -5},
            {0, 0, 1001}, {0, 500, 0}, {1, 500, 1001}, {MIN, MIN, MIN}, {MAX, MAX, MAX}};
        for (int[] w : wrong) {
            refuses(new GainTables(), INVALID, "sweep", w);
        }
    }

    static void sweepRefusesToGoWhereThePointIs() {
        promise(11, "; ILLEGAL_STATE if the point is there already.");
        GainTables t = new GainTables();
        refuses(t, ILLEGAL, "sweep", 0, 500, 1);
        refuses(t, ILLEGAL, "sweep", 1, 500, 1000);
        t.move(0, 1000);
        refuses(t, ILLEGAL, "sweep", 0, 0, 1);
        refuses(t, ILLEGAL, "sweep", 1, 1000, 1);
        due(t.sweep(1, 999, 1), 0);
    }
}
