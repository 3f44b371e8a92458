/** Promises 26 to 31: refusal, effect, valueAt, chatter, calmReach, steepest. */
final class QuestionSentences extends Sentences {
    private static GainTables four() {
        return Look.of("x500 1;y300 1;");
    }

    static void refusalTellsTheReason() {
        promise(26, "Tells for which reason an edit would be refused.");
        GainTables t = Look.of("x500 1;g0 0 0 500;");
        t.lock(1, 1, 0, 1);
        t.setOperator(2, 1, 50);
        due(t.refusal(0, 1, 0, 0, 0), 1);
        due(t.refusal(0, 0, 0, 0, 601), 2);
        due(t.refusal(2, 0, 0, 0, 551), 3);
        due(t.edit(0, 1, 0, 0, 0), ILLEGAL);
        due(t.edit(0, 0, 0, 0, 601), ILLEGAL);
        due(t.edit(2, 0, 0, 0, 551), ILLEGAL);
    }

    static void refusalTakesOperators() {
        promise(26, "`operator`: 0 to 2");
        range(QuestionSentences::four, 0, 0, 2, "refusal", 1, 0, 0, 0, 5);
    }

    static void refusalTakesColumns() {
        promise(26, "`column`: a strip of the axis 0");
        range(() -> Look.of("x1 0;x2 0;y3 0;"), 1, 0, 2, "refusal", 1, 0, 0, 0, 5);
    }

    static void refusalTakesRows() {
        promise(26, "`row`: a strip of the axis 1");
        range(() -> Look.of("x1 0;y2 0;y3 0;"), 2, 0, 2, "refusal", 1, 0, 0, 0, 5);
    }

    static void refusalTakesGains() {
        promise(26, "`gain`: 0 to 2");
        range(QuestionSentences::four, 3, 0, 2, "refusal", 1, 0, 0, 0, 5);
    }

    static void refusalTakesValues() {
        promise(26, "`value`: 0 to 9999");
        range(QuestionSentences::four, 4, 0, 9999, "refusal", 1, 0, 0, 0, 5);
        due(four().refusal(0, 0, 0, 0, 9999), 2);
    }

    static void refusalReturnsTheFirstReason() {
        promise(26, "Returns the reason");
        GainTables t = four();
        t.lock(1, 0, 0, 1);
        t.setOperator(0, 1, 0);
        due(t.refusal(0, 0, 0, 0, 101), 1);
        due(t.refusal(0, 1, 0, 0, 101), 2);
        due(t.refusal(0, 1, 0, 0, 100), 3);
        due(t.refusal(0, 1, 0, 0, 1), 3);
    }

    static void refusalReturnsZeroForAnEditThatWouldBeCarriedOut() {
        promise(26, ", or 0 if it would not be refused");
        GainTables t = four();
        t.lock(1, 0, 0, 1);
        String look = Look.all(t);
        due(t.refusal(1, 0, 0, 0, 100), 0);
        due(t.refusal(0, 1, 0, 0, 100), 0);
        due(t.refusal(0, 1, 0, 0, 0), 0);
        same(Look.all(t), look);
        due(t.edit(0, 1, 0, 0, 100), 0);
    }

    static void refusalRefusesWhatIsOutOfRange() {
        promise(26, "; INVALID_ARGUMENT if an argument is out of range.");
        int[][] wrong = {{-1, 0, 0, 0, 5}, {3, 0, 0, 0, 5}, {0, -1, 0, 0, 5}, {0, 2, 0, 0, 5},
            {0, 0, -1, 0, 5}, {0, 0, 2, 0, 5}, {0, 0, 0, -1, 5}, {0, 0, 0, 3, 5}, {0, 0, 0, 0, -1},
            {0, 0, 0, 0, 10000}, {MIN, MIN, MIN, MIN, MIN}, {MAX, MAX, MAX, MAX, MAX}};
        for (int[] w : wrong) {
            refuses(four(), INVALID, "refusal", w);
        }
    }

    /** Each answer is compared with the move itself, on a table of its own. */
    static void effectTellsWhatAMoveWouldDo() {
        promise(27, "Tells what a move would do.");
        int[] columns = {0, 349, 350, 449, 450, 460, 499, 500, 501, 540, 1000};
        int[] rows = {0, 594, 595, 604, 605, 1000};
        for (int x : columns) {
            for (int y : rows) {
                GainTables t = moved();
                int effect = t.effect(x, y);
                int[] ahead = {t.count(4), t.count(5), t.gain(0, 0), t.gain(1, 0), t.gain(2, 0)};
                int jump = t.move(x, y);
                int due = jump == NONE ? 0 : 1 + (t.count(4) != ahead[0] ? 2 : 0)
                        + (t.count(5) != ahead[1] ? 4 : 0) + (jump > 0 ? 8 : 0);
                due(effect, due);
            }
        }
    }

    private static GainTables moved() {
        GainTables t = Look.of("x400 50;x500 40~;y600 5;g0 0 0 9;g1 0 1 50;g2 0 1 52;g2 1 2 8;");
        t.move(450, 597);
        t.setMargin(50);
        return t;
    }

    static void effectTakesColumns() {
        promise(27, "`x`: 0 to 1000");
        range(GainTables::new, 0, 0, 1000, "effect", 5, 5);
    }

    static void effectTakesRows() {
        promise(27, "`y`: 0 to 1000");
        range(GainTables::new, 1, 0, 1000, "effect", 5, 5);
    }

    static void effectReturnsZeroForAnIgnoredMove() {
        promise(27, "Returns 0 if it would be ignored");
        GainTables t = Look.of("x500 0;y500 0;g0 0 0 9;");
        due(t.effect(500, 500), 1);
        t.setMargin(10);
        due(t.effect(491, 491), 0);
        due(t.effect(509, 509), 0);
        due(t.effect(500, 500), 0);
        due(t.effect(490, 500), 3);
        due(t.effect(500, 490), 5);
        due(t.effect(490, 490), 15);
    }

    static void effectReturnsOneForAnotherMove() {
        promise(27, "; otherwise 1");
        GainTables t = new GainTables();
        due(t.effect(500, 500), 1);
        due(t.effect(0, 1000), 1);
        t.setMargin(50);
        due(t.effect(550, 500), 1);
    }

    static void effectAddsTwoForTheZoneOfTheAxisZero() {
        promise(27, ", plus 2 if the active zone of the axis 0 would change");
        GainTables t = Look.of("x400 50;x500 5;y600 50;");
        due(t.count(4), 2);
        due(t.effect(495, 500), 1);
        due(t.effect(494, 500), 3);
        due(t.effect(0, 500), 3);
        t.move(450, 500);
        due(t.effect(504, 500), 1);
        due(t.effect(505, 500), 3);
        due(t.effect(350, 500), 1);
        due(t.effect(349, 500), 3);
    }

    static void effectAddsFourForTheZoneOfTheAxisOne() {
        promise(27, ", plus 4 if that of the axis 1 would");
        GainTables t = Look.of("x400 50;y400 50;y600 50;");
        due(t.count(5), 1);
        due(t.effect(500, 649), 1);
        due(t.effect(500, 650), 5);
        due(t.effect(500, 350), 1);
        due(t.effect(500, 349), 5);
        due(t.effect(0, 0), 7);
    }

    static void effectAddsEightIfAValueWouldChange() {
        promise(27, ", plus 8 if a value of a gain would change");
        for (int gain = 0; gain <= 2; gain++) {
            GainTables t = Look.of("x600 50~;g0 0 " + gain + " 10;g1 0 " + gain + " 30;");
            due(t.effect(550, 500), 1);
            due(t.effect(554, 500), 1);
            due(t.effect(555, 500), 9);
            due(t.effect(1000, 500), 9);
            t.move(1000, 500);
            due(t.effect(650, 0), 1);
            due(t.effect(649, 0), 9);
        }
        GainTables zone = Look.of("x500 0;g0 0 0 7;g1 0 0 7;");
        due(zone.effect(0, 0), 3);
    }

    static void effectRefusesWhatIsOutOfRange() {
        promise(27, "; INVALID_ARGUMENT if an argument is out of range.");
        int[][] wrong = {{-1, 500}, {1001, 500}, {500, -1}, {500, 1001}, {MIN, MIN}, {MAX, MAX},
            {MAX, 500}, {500, MIN}};
        for (int[] w : wrong) {
            refuses(moved(), INVALID, "effect", w);
        }
    }

    static void valueAtTellsTheValueAtAPlace() {
        promise(28, "Returns the value of a gain that there would be at a place");
        GainTables t = Look.of("x300 20~;y700 30~;g0 0 1 10;g1 0 1 200;g0 1 1 3000;g1 1 1 9999;");
        int[][] places = {{0, 0}, {1000, 0}, {0, 1000}, {1000, 1000}, {280, 670}, {320, 730}};
        int[] due = {10, 200, 3000, 9999, 10, 9999};
        for (int i = 0; i < places.length; i++) {
            due(t.valueAt(places[i][0], places[i][1], 1), due[i]);
            due(t.valueAt(places[i][0], places[i][1], 0), 0);
        }
        int numerator = 15 * 50 * 10 + 25 * 50 * 200 + 15 * 10 * 3000 + 25 * 10 * 9999;
        due(t.valueAt(305, 680, 1), numerator / 2400);
        due(t.count(2), 500);
    }

    static void theActiveZonesDoNotMatterToValueAt() {
        promise(28, ", if the active zones were those in which its coordinates lie");
        GainTables t = Look.of("x400 50;y600 50;g0 0 0 1;g1 0 0 2;g0 1 0 3;g1 1 0 4;");
        int[][] points = {{0, 0}, {1000, 0}, {0, 1000}, {1000, 1000}};
        for (int[] point : points) {
            t.move(point[0], point[1]);
            due(t.valueAt(399, 599, 0), 1);
            due(t.valueAt(440, 560, 0), 2);
            due(t.valueAt(360, 640, 0), 3);
            due(t.valueAt(449, 649, 0), 4);
        }
    }

    static void aStickyBorderCountsByItsPositionForValueAt() {
        promise(28, " (a sticky border counting by its position alone).");
        GainTables t = Look.of("x400 50;y600 0;g0 0 0 1;g1 0 0 2;g0 1 0 3;g1 1 0 4;");
        int[][] due = {{399, 599, 1}, {400, 599, 2}, {399, 600, 3}, {400, 600, 4}, {401, 601, 4}};
        for (int[] d : due) {
            due(t.valueAt(d[0], d[1], 0), d[2]);
        }
    }

    static void valueAtTakesColumns() {
        promise(28, "`x`: 0 to 1000");
        range(GainTables::new, 0, 0, 1000, "valueAt", 5, 5, 0);
    }

    static void valueAtTakesRows() {
        promise(28, "`y`: 0 to 1000");
        range(GainTables::new, 1, 0, 1000, "valueAt", 5, 5, 0);
    }

    static void valueAtTakesGains() {
        promise(28, "`gain`: 0 to 2");
        range(GainTables::new, 2, 0, 2, "valueAt", 5, 5, 0);
    }

    static void valueAtReturnsAValueRoundedDown() {
        promise(28, "Returns the value; ");
        GainTables t = Look.of("x500 2~;g0 0 0 100;g1 0 0 103;");
        int[] due = {100, 100, 101, 102, 103};
        for (int i = 0; i < 5; i++) {
            due(t.valueAt(498 + i, 0, 0), due[i]);
        }
    }

    static void valueAtRefusesWhatIsOutOfRange() {
        promise(28, "INVALID_ARGUMENT if an argument is out of range.");
        int[][] wrong = {{-1, 5, 0}, {1001, 5, 0}, {5, -1, 0}, {5, 1001, 0}, {5, 5, -1}, {5, 5, 3},
            {MIN, MIN, MIN}, {MAX, MAX, MAX}};
        for (int[] w : wrong) {
            refuses(moved(), INVALID, "valueAt", w);
        }
    }

    static void chatterCountsChangesOfTheZone() {
        promise(29, "Counts how often the active zone of an axis would change");
        for (int axis = 0; axis <= 1; axis++) {
            GainTables t = axis == 0 ? Look.of("x400 50;") : Look.of("y400 50;");
            String look = Look.all(t);
            due(t.chatter(axis, 400, 49, 100), 0);
            due(t.chatter(axis, 400, 50, 100), 0);
            due(t.chatter(axis, 400, 51, 100), 99);
            due(t.chatter(1 - axis, 400, 51, 100), 0);
            same(Look.all(t), look);
        }
    }

    static void chatterBeginsWithThePresentZone() {
        promise(29, ", beginning with the present one");
        GainTables t = Look.of("x400 50;");
        due(t.chatter(0, 400, 40, 100), 0);
        due(t.chatter(0, 300, 0, 100), 1);
        t.move(350, 0);
        due(t.chatter(0, 400, 50, 100), 0);
        due(t.chatter(0, 349, 0, 1), 1);
        t.move(349, 0);
        due(t.chatter(0, 400, 50, 100), 1);
        due(t.chatter(0, 400, 49, 100), 0);
        due(t.chatter(0, 300, 0, 100), 0);
        t.move(449, 0);
        due(t.chatter(0, 450, 0, 1), 1);
    }

    static void chatterGoesUpFirstAndThenDown() {
        promise(29, ", if the coordinate went from where it is to center + amplitude, then to center"
                + " - amplitude, and so on by turns");
        GainTables t = Look.of("x400 50;");
        due(t.chatter(0, 400, 60, 1), 0);
        due(t.chatter(0, 400, 60, 2), 1);
        due(t.chatter(0, 400, 60, 3), 2);
        due(t.chatter(0, 400, 60, 4), 3);
        t.move(0, 0);
        due(t.chatter(0, 400, 60, 1), 1);
        due(t.chatter(0, 400, 60, 2), 2);
        due(t.chatter(0, 400, 60, 99), 99);
    }

    static void theOtherCoordinateDoesNotMatterToChatter() {
        promise(29, ", the other coordinate staying where it is.");
        GainTables t = Look.of("x400 10;y500 0;");
        due(t.chatter(0, 400, 20, 10), 9);
        due(t.chatter(1, 500, 1, 10), 9);
        t.move(500, 0);
        due(t.chatter(0, 400, 20, 10), 9);
        due(t.chatter(1, 500, 1, 10), 10);
        due(t.count(3), 0);
    }

    static void theMarginDoesNotMatterToChatter() {
        promise(29, "(The dead margin does not matter");
        GainTables t = Look.of("x500 0;");
        due(t.chatter(0, 500, 1, 100), 99);
        t.setMargin(50);
        due(t.chatter(0, 500, 1, 100), 99);
        due(t.count(7), 0);
    }

    static void aChangeOverSeveralBordersCountsOnceForChatter() {
        promise(29, "; a change over several borders at once counts once.)");
        GainTables t = Look.of("x100 0;x200 0;x300 9~;x800 0;");
        due(t.chatter(0, 500, 500, 1), 1);
        due(t.chatter(0, 500, 500, 2), 2);
        due(t.chatter(0, 500, 500, 100), 100);
        due(t.chatter(0, 150, 60, 7), 6);
        due(t.chatter(0, 150, 149, 4), 3);
    }

    static void chatterTakesTheAxes() {
        promise(29, "`axis`: 0 or 1");
        range(GainTables::new, 0, 0, 1, "chatter", 0, 500, 5, 5);
    }

    static void chatterTakesCenters() {
        promise(29, "`center`: 0 to 1000");
        range(GainTables::new, 1, 0, 1000, "chatter", 0, 500, 0, 5);
    }

    static void chatterTakesAmplitudes() {
        promise(29, "`amplitude`: 0 to 500");
        range(GainTables::new, 2, 0, 500, "chatter", 0, 500, 5, 5);
    }

    static void chatterStaysOnTheAxis() {
        promise(29, "; center plus and minus amplitude lie from 0 to 1000");
        for (int amplitude : new int[] {1, 2, 250, 499, 500}) {
            GainTables t = new GainTables();
            due(t.chatter(0, amplitude, amplitude, 5), 0);
            due(t.chatter(1, 1000 - amplitude, amplitude, 5), 0);
            refuses(t, INVALID, "chatter", 0, amplitude - 1, amplitude, 5);
            refuses(t, INVALID, "chatter", 1, 1001 - amplitude, amplitude, 5);
        }
    }

    static void chatterTakesTurns() {
        promise(29, "`turns`: 1 to 100, the number of these places");
        range(GainTables::new, 3, 1, 100, "chatter", 0, 500, 5, 5);
        GainTables t = Look.of("x500 0;");
        for (int turns = 1; turns <= 100; turns++) {
            due(t.chatter(0, 500, 1, turns), turns - 1);
        }
    }

    static void chatterReturnsTheNumberOfChanges() {
        promise(29, "Returns the number of changes");
        GainTables t = Look.of("x500 0;");
        due(t.chatter(0, 700, 100, 100), 0);
        due(t.chatter(0, 300, 100, 100), 1);
        due(t.chatter(0, 450, 50, 100), 99);
        due(t.chatter(0, 449, 50, 100), 1);
        due(t.chatter(0, 550, 50, 100), 0);
        due(t.chatter(0, 549, 50, 100), 99);
    }

    static void chatterRefusesWhatIsOutOfRange() {
        promise(29, "; INVALID_ARGUMENT if an argument is out of range");
        int[][] wrong = {{-1, 500, 5, 5}, {2, 500, 5, 5}, {0, -1, 0, 5}, {0, 1001, 0, 5},
            {0, 500, -1, 5}, {0, 500, 501, 5}, {0, 500, 5, 0}, {0, 500, 5, -1}, {0, 500, 5, 101},
            {MIN, MIN, MIN, MIN}, {MAX, MAX, MAX, MAX}, {0, MAX, MAX, 5}, {0, MIN, MIN, 5},
            {0, MAX, 500, 5}};
        for (int[] w : wrong) {
            refuses(Look.of("x500 5;"), INVALID, "chatter", w);
        }
    }

    /** Also with one turn, which would not lead to the lower place: NOTES.md. */
    static void chatterRefusesPlacesOutsideOfTheAxis() {
        promise(29, ", or a place would lie outside of the axis.");
        int[][] wrong = {{0, 10, 11, 100}, {1, 990, 11, 100}, {0, 0, 1, 2}, {1, 1000, 1, 1},
            {0, 499, 500, 2}, {0, 501, 500, 2}, {0, 10, 11, 1}};
        for (int[] w : wrong) {
            refuses(Look.of("x500 5;"), INVALID, "chatter", w);
        }
    }

    /** Each reach is set on a table of its own, and chatter() asked there. */
    static void calmReachFindsTheLeastReach() {
        promise(30, "Finds the least reach that a sticky border could have");
        String[] texts = {"x400 50;", "x300 10;x400 50;x500 5~;", "x400 0;x410 9;x480 60;", "x30 5;"};
        int[] borders = {0, 1, 0, 0};
        int[] points = {0, 399, 400, 1000};
        for (int i = 0; i < texts.length; i++) {
            for (int amplitude : new int[] {0, 1, 2, 7, 29, 30}) {
                for (int point : points) {
                    GainTables t = Look.of(texts[i]);
                    t.move(point, 0);
                    due(t.calmReach(0, borders[i], amplitude),
                            leastReach(texts[i], point, borders[i], amplitude));
                }
            }
        }
    }

    private static int leastReach(String text, int point, int border, int amplitude) {
        for (int reach = 0; reach <= 100; reach++) {
            GainTables t = Look.of(text);
            t.move(point, 0);
            if (t.setReach(0, border, reach) >= 0
                    && t.chatter(0, t.border(0, border, 0), amplitude, 100) <= 1) {
                return reach;
            }
        }
        return NONE;
    }

    static void theNeighborsLimitTheReach() {
        promise(30, " (by its neighbors, too)");
        GainTables t = Look.of("x300 10;x400 50;x500 5~;y300 10~;y400 0;");
        due(t.calmReach(0, 1, 89), 89);
        due(t.calmReach(0, 1, 90), NONE);
        due(t.calmReach(0, 0, 49), 49);
        due(t.calmReach(0, 0, 50), NONE);
        due(t.calmReach(1, 1, 89), 89);
        due(t.calmReach(1, 1, 90), NONE);
    }

    static void oneChangeIsCalm() {
        promise(30, " so that chatter() at its position with an amplitude and 100 turns would be at"
                + " most 1");
        GainTables t = Look.of("x400 50;");
        t.move(0, 0);
        for (int amplitude = 0; amplitude <= 100; amplitude++) {
            due(t.calmReach(0, 0, amplitude), amplitude);
        }
        due(t.calmReach(0, 0, 101), NONE);
        due(t.setReach(0, 0, 20), 50);
        due(t.chatter(0, 400, 20, 100), 1);
        due(t.chatter(0, 400, 21, 100), 100);
    }

    static void calmReachChangesNothing() {
        promise(30, ", everything else as it is.");
        GainTables t = Look.of("x400 50;x500 5;y300 9;");
        t.setMargin(50);
        t.move(350, 0);
        String look = Look.all(t);
        due(t.calmReach(0, 0, 60), 60);
        due(t.calmReach(0, 0, 95), NONE);
        due(t.calmReach(1, 0, 9), 9);
        same(Look.all(t), look);
    }

    static void reachesThatSetReachWouldNotTakeAreLeftOut() {
        promise(30, "(Reaches that setReach() would not take are left out.");
        GainTables t = Look.of("x60 5;y940 5;");
        due(t.calmReach(0, 0, 60), 60);
        due(t.calmReach(1, 0, 60), 60);
        refuses(t, INVALID, "calmReach", 0, 0, 61);
        due(Look.of("x500 0;").calmReach(0, 0, 100), 100);
        due(Look.of("x500 0;").calmReach(0, 0, 101), NONE);
        due(Look.of("x500 0;").calmReach(0, 0, 500), NONE);
        due(Look.of("x500 0;x501 0;").calmReach(0, 0, 1), NONE);
        due(Look.of("x500 0;x501 0;").calmReach(0, 0, 0), 0);
    }

    static void calmReachFindsTheZonesAnew() {
        promise(30, "For this question, the active zones would be found anew, by the point as it is,"
                + " when the reach has been set.)");
        GainTables t = Look.of("x400 50;");
        t.move(360, 0);
        due(t.count(4), 1);
        due(t.calmReach(0, 0, 20), 20);
        due(t.calmReach(0, 0, 0), 0);
        due(t.count(4), 1);
        t.setReach(0, 0, 20);
        due(t.count(4), 0);
        due(t.chatter(0, 400, 20, 100), 1);
    }

    static void calmReachTakesTheAxes() {
        promise(30, "`axis`: 0 or 1");
        range(() -> Look.of("x500 5;y500 5;"), 0, 0, 1, "calmReach", 0, 0, 5);
    }

    static void calmReachTakesTheBordersOfTheAxis() {
        promise(30, "`border`: a border of the axis");
        range(() -> Look.of("x300 5;x400 5~;x500 5;y500 5;"), 1, 0, 2, "calmReach", 0, 0, 5);
        refuses(new GainTables(), INVALID, "calmReach", 0, 0, 0);
    }

    static void calmReachTakesAmplitudes() {
        promise(30, "`amplitude`: 0 to 500");
        range(() -> Look.of("x500 5;"), 2, 0, 500, "calmReach", 0, 0, 5);
    }

    static void calmReachReturnsAReach() {
        promise(30, "Returns the reach, 0 to 100");
        GainTables t = Look.of("x500 5;");
        due(t.calmReach(0, 0, 0), 0);
        due(t.calmReach(0, 0, 1), 1);
        due(t.calmReach(0, 0, 99), 99);
        due(t.calmReach(0, 0, 100), 100);
    }

    static void calmReachRefusesWhatIsOutOfRange() {
        promise(30, "; INVALID_ARGUMENT if an argument is out of range");
        int[][] wrong = {{-1, 0, 5}, {2, 0, 5}, {0, -1, 5}, {0, 2, 5}, {1, 0, 5}, {0, 0, -1},
            {0, 0, 501}, {0, 1, -1}, {0, 1, 501}, {MIN, MIN, MIN}, {MAX, MAX, MAX}};
        for (int[] w : wrong) {
            refuses(Look.of("x500 5;x600 5~;"), INVALID, "calmReach", w);
        }
    }

    static void calmReachRefusesPlacesOutsideOfTheAxis() {
        promise(30, ", or position plus or minus amplitude would lie outside of the axis");
        GainTables t = Look.of("x40 5;x970 5;");
        due(t.calmReach(0, 0, 40), 40);
        refuses(t, INVALID, "calmReach", 0, 0, 41);
        due(t.calmReach(0, 1, 30), 30);
        refuses(t, INVALID, "calmReach", 0, 1, 31);
    }

    static void calmReachRefusesABlendingBorder() {
        promise(30, "; ILLEGAL_STATE if the border is a blending one");
        GainTables t = Look.of("x400 10~;x500 5;y30 5~;");
        refuses(t, ILLEGAL, "calmReach", 0, 0, 0);
        refuses(t, ILLEGAL, "calmReach", 0, 0, 10);
        refuses(t, ILLEGAL, "calmReach", 0, 0, 400);
        refuses(t, ILLEGAL, "calmReach", 1, 0, 30);
        refuses(t, INVALID, "calmReach", 1, 0, 31);
        due(t.calmReach(0, 1, 10), 10);
    }

    static void calmReachReturnsNoneIfThereIsNone() {
        promise(30, "; NONE if there is none.");
        due(Look.of("x500 100;").calmReach(0, 0, 101), NONE);
        due(Look.of("x500 5;x511 5~;").calmReach(0, 0, 6), NONE);
        due(Look.of("x500 5;x511 5~;").calmReach(0, 0, 5), 5);
    }

    /** Asked for coordinate by coordinate, on tables that get few calls each. */
    static void steepestFindsTheGreatestDifference() {
        promise(31, "Finds the greatest difference, without sign, of the values of a gain at two"
                + " neighboring coordinates along an axis");
        String[] texts = {"x400 50;x700 7~;y300 9~;g0 0 0 500;g1 0 0 90;g2 0 0 777;g0 1 0 5;g1 1 0 9;",
            "y2 2~;y900 9;y998 2~;g0 0 0 20;g0 1 0 300;g0 2 0 90;g0 3 0 1;", "x500 100~;g1 0 0 9999;",
            "x100 3;y500 50~;g1 0 0 7;g1 1 0 70;"};
        for (String text : texts) {
            for (int axis = 0; axis <= 1; axis++) {
                int[] due = steepest(text, axis);
                due(Look.of(text).steepest(axis, 0, 0), due[0]);
                due(Look.of(text).steepest(axis, 0, 1), due[1]);
            }
        }
    }

    private static int[] steepest(String text, int axis) {
        int[] steepest = {-1, -1};
        GainTables t = Look.of(text);
        for (int lower = 0; lower < 1000; lower++) {
            if (lower % 100 == 0) {
                t = Look.of(text);
            }
            int here = axis == 0 ? t.valueAt(lower, 500, 0) : t.valueAt(500, lower, 0);
            int next = axis == 0 ? t.valueAt(lower + 1, 500, 0) : t.valueAt(500, lower + 1, 0);
            if (Math.abs(next - here) > steepest[0]) {
                steepest[0] = Math.abs(next - here);
                steepest[1] = lower;
            }
        }
        return steepest;
    }

    static void steepestGoesToBothEndsOfTheAxis() {
        promise(31, "two neighboring coordinates along an axis");
        GainTables first = Look.of("x1 0;g1 0 0 5;");
        due(first.steepest(0, 0, 0), 5);
        due(first.steepest(0, 0, 1), 0);
        GainTables firstRow = Look.of("y1 0;g0 1 0 5;");
        due(firstRow.steepest(1, 0, 0), 5);
        due(firstRow.steepest(1, 0, 1), 0);
        GainTables last = Look.of("y999 1~;g0 1 0 9;");
        due(last.steepest(1, 0, 0), 5);
        due(last.steepest(1, 0, 1), 999);
        GainTables ahead = Look.of("y999 0;g0 1 0 9;");
        due(ahead.steepest(1, 0, 1), 998);
    }

    static void steepestHasNoSign() {
        promise(31, "Finds the greatest difference, without sign");
        GainTables t = Look.of("x300 0;x600 0;g1 0 0 80;g2 0 0 170;");
        due(t.steepest(0, 0, 0), 90);
        due(t.steepest(0, 0, 1), 599);
        GainTables down = Look.of("x300 0;x600 0;g0 0 0 170;g1 0 0 90;");
        due(down.steepest(0, 0, 0), 90);
        due(down.steepest(0, 0, 1), 599);
    }

    static void steepestIsAsValueAtTells() {
        promise(31, ", as valueAt() tells them");
        GainTables t = Look.of("x400 50;g1 0 0 70;");
        int[] points = {0, 449, 1000, 350};
        for (int point : points) {
            t.move(point, 0);
            due(t.steepest(0, 0, 0), 70);
            due(t.steepest(0, 0, 1), 399);
            due(t.count(2), point);
        }
    }

    static void theOtherCoordinateIsThatOfThePoint() {
        promise(31, ", with the other coordinate as that of the point.");
        GainTables t = Look.of("x400 0;y600 50;g1 0 2 5;g1 1 2 70;");
        int[] rows = {0, 599, 600, 649, 1000, 600, 599, 550};
        int[] due = {5, 5, 70, 70, 70, 70, 5, 5};
        for (int i = 0; i < rows.length; i++) {
            t.move(9, rows[i]);
            due(t.steepest(0, 2, 0), due[i]);
            due(t.steepest(1, 2, 0), 0);
        }
        t.move(400, 9);
        due(t.steepest(1, 2, 0), 65);
        due(t.steepest(1, 2, 1), 599);
    }

    static void steepestTakesTheAxes() {
        promise(31, "`axis`: 0 or 1");
        range(GainTables::new, 0, 0, 1, "steepest", 0, 0, 0);
    }

    static void steepestTakesGains() {
        promise(31, "`gain`: 0 to 2");
        range(GainTables::new, 1, 0, 2, "steepest", 0, 0, 0);
        GainTables t = Look.of("x500 0;g1 0 0 5;g1 0 1 6;g1 0 2 7;");
        for (int gain = 0; gain <= 2; gain++) {
            due(t.steepest(0, gain, 0), 5 + gain);
        }
    }

    static void steepestTellsTheDifferenceAndTheCoordinate() {
        promise(31, "`what`: 0 the difference, 1 the lower one of the two coordinates");
        GainTables t = Look.of("x500 0;g1 0 0 9999;");
        due(t.steepest(0, 0, 0), 9999);
        due(t.steepest(0, 0, 1), 499);
        GainTables blend = Look.of("x500 100~;g1 0 0 9999;");
        due(blend.steepest(0, 0, 0), 50);
    }

    static void ofSeveralCoordinatesTheSmallestIsTold() {
        promise(31, ", of several the smallest one");
        GainTables t = Look.of("x300 0;x600 0;y1 0;y999 0;g1 0 0 8;g1 1 0 8;g1 2 0 9;");
        due(t.steepest(0, 0, 1), 299);
        due(new GainTables().steepest(0, 0, 1), 0);
        due(new GainTables().steepest(1, 2, 0), 0);
        GainTables blend = Look.of("x500 10~;g1 0 0 200;");
        due(blend.steepest(0, 0, 0), 10);
        due(blend.steepest(0, 0, 1), 490);
    }

    static void steepestRefusesWhatIsOutOfRange() {
        promise(31, "Returns the number; INVALID_ARGUMENT if an argument is out of range.");
        range(GainTables::new, 2, 0, 1, "steepest", 0, 0, 0);
        int[][] wrong = {{-1, 0, 0}, {2, 0, 0}, {0, -1, 0}, {0, 3, 0}, {0, 0, -1}, {0, 0, 2},
            {MIN, MIN, MIN}, {MAX, MAX, MAX}};
        for (int[] w : wrong) {
            refuses(Look.of("x500 5;g1 0 0 4;"), INVALID, "steepest", w);
        }
    }
}
