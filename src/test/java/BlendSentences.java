/** The terms of blends, each sentence by itself. */
final class BlendSentences extends Sentences {
    static void theCoordinateItselfCountsInsideOfItsZone() {
        terms("On an axis, with the active zone z and the coordinate c, let u be c");
        GainTables t = Look.of("x300 20;x400 60~;x500 20;y400 60~;");
        for (int c = 340; c <= 460; c += 15) {
            t.move(c, c);
            blend(t, 0, 1, 2, c - 340, 120);
            blend(t, 1, 0, 1, c - 340, 120);
        }
    }

    static void bordersBeyondTheEndsOfTheZoneDoNotMatter() {
        terms("On an axis, with the active zone z and the coordinate c, let u be c");
        GainTables t = Look.of("x100 5;x200 5;x300 20~;x400 5;x500 5;x600 20~;");
        int[][] due = {{0, 0, 0, 0, 1}, {150, 1, 1, 0, 1}, {290, 2, 3, 10, 40}, {380, 3, 3, 0, 1},
            {450, 4, 4, 0, 1}, {590, 5, 6, 10, 40}, {1000, 6, 6, 0, 1}};
        for (int turn = 0; turn <= 1; turn++) {
            for (int i = 0; i < due.length; i++) {
                int[] d = due[turn == 0 ? i : due.length - 1 - i];
                t.move(d[0], 0);
                blend(t, 0, d[1], d[2], d[3], d[4]);
            }
        }
    }

    static void belowTheLowerEndThePositionCounts() {
        terms(", but not less than the position of the sticky border at the lower end of z");
        GainTables t = Look.of("x340 9~;x400 50;x460 9~;");
        t.move(1000, 0);
        for (int c = 449; c >= 350; c--) {
            t.move(c, 0);
            due(t.count(4), 1);
            blend(t, 0, 2, 2, 0, 1);
        }
        t.move(349, 0);
        due(t.count(4), 0);
        blend(t, 0, 0, 1, 18, 18);
    }

    static void fromTheUpperEndOnThePositionMinusOneCounts() {
        terms(", and less than the position of that at its upper end (it becomes this position, or"
                + " the other one minus 1).");
        GainTables t = Look.of("y340 9~;y400 50;y460 9~;");
        t.move(0, 0);
        for (int c = 350; c <= 449; c++) {
            t.move(0, c);
            due(t.count(5), 0);
            blend(t, 1, 1, 1, 0, 1);
        }
        t.move(0, 450);
        due(t.count(5), 1);
        blend(t, 1, 2, 2, 0, 1);
        t.move(0, 451);
        blend(t, 1, 2, 3, 0, 18);
    }

    static void rightBelowTheUpperEndTheCoordinateItselfCounts() {
        terms("the other one minus 1).");
        GainTables t = Look.of("x390 9~;x400 0;y399 0;y400 0;");
        t.move(0, 0);
        t.move(399, 399);
        blend(t, 0, 0, 1, 18, 18);
        blend(t, 1, 1, 1, 0, 1);
        t.move(398, 398);
        blend(t, 0, 0, 1, 17, 18);
        blend(t, 1, 0, 0, 0, 1);
        t.move(400, 400);
        blend(t, 0, 2, 2, 0, 1);
        blend(t, 1, 2, 2, 0, 1);
    }

    static void rightAboveTheLowerEndTheCoordinateItselfCounts() {
        terms("(it becomes this position");
        GainTables t = Look.of("x400 0;x410 9~;y400 0;y401 0;");
        t.move(400, 400);
        blend(t, 0, 1, 1, 0, 1);
        blend(t, 1, 1, 1, 0, 1);
        t.move(401, 401);
        blend(t, 0, 1, 2, 0, 18);
        blend(t, 1, 2, 2, 0, 1);
    }

    static void bothEndsOfAZoneHold() {
        terms(" (it becomes this position, or the other one minus 1).");
        GainTables t = Look.of("x400 50;x500 40;g0 0 0 1;g1 0 0 2;g2 0 0 3;");
        t.move(450, 0);
        t.move(350, 0);
        due(t.gain(0, 0), 2);
        t.move(539, 0);
        due(t.gain(0, 0), 2);
        t.move(540, 0);
        due(t.gain(0, 0), 3);
        t.move(460, 0);
        due(t.gain(0, 0), 3);
        t.move(349, 0);
        due(t.gain(0, 0), 1);
        t.move(449, 0);
        due(t.gain(0, 0), 1);
    }

    static void aBlendingBorderBlendsTheStripsOnItsSides() {
        terms("If u lies in what a blending border b occupies, the low strip is the one below b, the"
                + " high strip the one above it");
        GainTables t = Look.of("x300 5~;x400 10~;x421 10~;y300 0;y400 10~;");
        int[] places = {389, 390, 400, 410, 411, 421, 431, 432};
        int[][] strips = {{1, 1}, {1, 2}, {1, 2}, {1, 2}, {2, 3}, {2, 3}, {2, 3}, {3, 3}};
        for (int i = 0; i < places.length; i++) {
            t.move(places[i], 0);
            due(t.axis(0, 2), strips[i][0]);
            due(t.axis(0, 3), strips[i][1]);
        }
        t.move(0, 390);
        blend(t, 1, 1, 2, 0, 20);
        t.move(0, 389);
        blend(t, 1, 1, 1, 0, 1);
    }

    static void theWeightGrowsFromZeroToOne() {
        terms(", and the weight of the high one is (u - p + r) / (2 * r) as a fraction, where p is"
                + " the position and r the reach of b.");
        for (int reach : new int[] {1, 2, 7, 50, 100}) {
            GainTables t = new GainTables();
            t.addBorder(0, 600, 1, reach);
            t.addBorder(1, 300, 1, reach);
            for (int from : new int[] {-reach, -1, 0, 1, reach}) {
                t.move(600 + from, 300 - from);
                blend(t, 0, 0, 1, reach + from, 2 * reach);
                blend(t, 1, 0, 1, reach - from, 2 * reach);
            }
        }
    }

    static void elsewhereTheStripAloneCounts() {
        terms("Otherwise both are the strip in which u lies, and the weight is 0 / 1.");
        GainTables t = Look.of("x400 10~;x600 10;");
        int[] places = {0, 389, 411, 599, 610, 1000};
        int[] strips = {0, 0, 1, 1, 2, 2};
        for (int i = 0; i < places.length; i++) {
            t.move(places[i], 0);
            blend(t, 0, strips[i], strips[i], 0, 1);
        }
    }

    static void theDenominatorIsTheProductOfBoth() {
        terms("Let n0 / d0 and n1 / d1 be the weights of both axes. The fraction of a gain has the"
                + " denominator d0 * d1");
        GainTables t = Look.of("x500 7~;y500 9~;");
        int[][] places = {{500, 500}, {500, 0}, {0, 500}, {0, 0}};
        int[] due = {14 * 18, 14, 18, 1};
        for (int i = 0; i < places.length; i++) {
            t.move(places[i][0], places[i][1]);
            for (int gain = 0; gain <= 2; gain++) {
                due(t.gain(gain, 2), due[i]);
            }
        }
    }

    static void theLowLowPart() {
        terms(" and the numerator (d0 - n0) * (d1 - n1) * g(low, low)");
        due(corner("g0 0 1 1000;").gain(1, 1), 15 * 12 * 1000);
    }

    static void theHighLowPart() {
        terms(" + n0 * (d1 - n1) * g(high, low)");
        due(corner("g1 0 1 1000;").gain(1, 1), 5 * 12 * 1000);
    }

    static void theLowHighPart() {
        terms(" + (d0 - n0) * n1 * g(low, high)");
        due(corner("g0 1 1 1000;").gain(1, 1), 15 * 48 * 1000);
    }

    static void theHighHighPart() {
        terms(" + n0 * n1 * g(high, high),");
        due(corner("g1 1 1 1000;").gain(1, 1), 5 * 48 * 1000);
    }

    static void theColumnComesFirst() {
        terms(" where g(column, row) is the gain of the region with the low or high strip of the"
                + " axis 0 as its column, and that of the axis 1 as its row.");
        GainTables t = corner("g0 0 2 7;g1 0 2 80;g0 1 2 900;g1 1 2 6000;");
        due(t.gain(2, 1), 15 * 12 * 7 + 5 * 12 * 80 + 15 * 48 * 900 + 5 * 48 * 6000);
        due(t.gain(1, 1), 0);
        t.move(0, 1000);
        due(t.gain(2, 1), 900);
        t.move(1000, 0);
        due(t.gain(2, 1), 80);
    }

    static void theGreatestNumeratorDoesNotWrapAround() {
        terms(" and the numerator (d0 - n0) * (d1 - n1) * g(low, low)");
        GainTables t = Look.of("g0 0 0 9999;x500 100~;y500 100~;");
        int[] places = {400, 500, 599, 600};
        for (int x : places) {
            for (int y : places) {
                t.move(x, y);
                due(t.gain(0, 1), 399960000);
                due(t.gain(0, 2), 40000);
                due(t.gain(0, 0), 9999);
            }
        }
    }

    static void theValueIsTheNumeratorByTheDenominator() {
        terms("The value of the gain is numerator / denominator.");
        GainTables t = Look.of("g0 0 0 100;x500 2~;g1 0 0 103;");
        int[] due = {100, 100, 101, 102, 103};
        for (int i = 0; i < 5; i++) {
            t.move(498 + i, 0);
            due(t.gain(0, 0), due[i]);
        }
    }

    static void fractionsAreNotReduced() {
        terms("(Fractions are not reduced.)");
        GainTables t = Look.of("g0 0 0 40;x500 10~;y500 5~;");
        due(t.gain(0, 1), 40 * 200);
        due(t.gain(0, 2), 200);
        due(t.gain(1, 1), 0);
        due(t.gain(1, 2), 200);
        due(t.axis(0, 4), 10);
        due(t.axis(0, 5), 20);
        t.move(490, 505);
        due(t.axis(0, 4), 0);
        due(t.axis(0, 5), 20);
        due(t.axis(1, 4), 10);
        due(t.axis(1, 5), 10);
    }

    /** The weights are 5 / 20 and 48 / 60 at the point. */
    private static GainTables corner(String gains) {
        GainTables t = Look.of("x500 10~;y500 30~;" + gains);
        t.move(495, 518);
        blend(t, 0, 0, 1, 5, 20);
        blend(t, 1, 0, 1, 48, 60);
        return t;
    }

    private static void blend(GainTables t, int axis, int low, int high, int numerator,
            int denominator) {
        due(t.axis(axis, 2), low);
        due(t.axis(axis, 3), high);
        due(t.axis(axis, 4), numerator);
        due(t.axis(axis, 5), denominator);
    }
}
