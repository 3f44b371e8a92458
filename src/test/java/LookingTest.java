/** Promises 18 to 25: count, axis, border, region, operator, account, gain, trail. */
final class LookingTest {
    private static final Check check = new Check("LookingTest");
    private static final int[] FAR = {Integer.MIN_VALUE, Integer.MAX_VALUE};

    public static void main(String[] args) {
        count();
        axis();
        axisHeldInItsZone();
        border();
        region();
        operator();
        account();
        gain();
        trail();
        check.end();
    }

    private static void count() {
        GainTables t = Look.of("x400 50;x600 5;y500 3~;");
        t.setMargin(9);
        t.move(700, 300);
        t.move(701, 301);
        t.move(702, 302);
        t.move(650, 302);
        t.take(2);
        Look.write(t, "abc");
        int[] due = {6, 9, 650, 302, 2, 0, 2, 2, 2, 5, 3, 1};
        for (int what = 0; what <= 11; what++) {
            check.due("count " + what, t.count(what), due[what]);
        }
        check.due("count -1", t.count(-1), Look.INVALID);
        check.due("count 12", t.count(12), Look.INVALID);
        for (int far : FAR) {
            check.due("count", t.count(far), Look.INVALID);
        }
        GainTables full = Look.of("x1 0;x2 0;x3 0;x4 0;x5 0;x6 0;y1 0;y2 0;y3 0;y4 0;y5 0;y6 0;");
        check.due("regions", full.count(0), 49);
        check.due("zones", full.count(4) * 10 + full.count(5), 66);
    }

    private static void axis() {
        GainTables t = Look.of("x400 50;x600 20~;x800 5~;y300 0;y500 100~;");
        due(t, 0, 3, 2, 1, 1, 0, 1);
        due(t, 1, 2, 2, 1, 2, 100, 200);
        t.move(580, 400);
        due(t, 0, 3, 2, 1, 2, 0, 40);
        due(t, 1, 2, 2, 1, 2, 0, 200);
        t.move(579, 399);
        due(t, 0, 3, 2, 1, 1, 0, 1);
        due(t, 1, 2, 2, 1, 1, 0, 1);
        t.move(620, 600);
        due(t, 0, 3, 2, 1, 2, 40, 40);
        due(t, 1, 2, 2, 1, 2, 200, 200);
        t.move(621, 601);
        due(t, 0, 3, 2, 2, 2, 0, 1);
        due(t, 1, 2, 2, 2, 2, 0, 1);
        t.move(801, 1000);
        due(t, 0, 3, 2, 2, 3, 6, 10);
        check.due("axis -1", t.axis(-1, 0), Look.INVALID);
        check.due("axis 2", t.axis(2, 0), Look.INVALID);
        check.due("what -1", t.axis(0, -1), Look.INVALID);
        check.due("what 6", t.axis(0, 6), Look.INVALID);
        for (int far : FAR) {
            check.due("axis far", t.axis(far, 0), Look.INVALID);
            check.due("what far", t.axis(1, far), Look.INVALID);
        }
    }

    private static void due(GainTables t, int axis, int... parts) {
        for (int what = 0; what < parts.length; what++) {
            check.due("axis(" + axis + ", " + what + ")", t.axis(axis, what), parts[what]);
        }
    }

    /** Below the position of the border at the zone's end the coordinate counts as that position. */
    private static void axisHeldInItsZone() {
        GainTables t = Look.of("x400 50;x460 9~;x340 9~;y500 100;y399 0;");
        t.move(350, 600);
        due(t, 0, 3, 2, 2, 2, 0, 1);
        t.move(349, 600);
        due(t, 0, 3, 2, 0, 1, 18, 18);
        t.move(449, 400);
        due(t, 0, 3, 2, 1, 1, 0, 1);
        check.due("zone", t.count(5), 2);
        due(t, 1, 2, 3, 2, 2, 0, 1);
        GainTables edge = Look.of("x400 0;x399 0;y400 0;y390 9~;");
        edge.move(0, 0);
        edge.move(399, 399);
        due(edge, 0, 2, 3, 1, 1, 0, 1);
        due(edge, 1, 2, 2, 0, 1, 18, 18);
        edge.move(0, 400);
        due(edge, 1, 2, 2, 2, 2, 0, 1);
        GainTables blended = Look.of("x410 0;x405 4~;x500 80;");
        blended.move(0, 0);
        blended.move(409, 0);
        due(blended, 0, 3, 3, 0, 1, 8, 8);
        GainTables sticky = Look.of("x400 100;x250 49~;");
        sticky.move(0, 0);
        sticky.move(450, 0);
        check.due("zone", sticky.count(4), 0);
        due(sticky, 0, 2, 2, 1, 1, 0, 1);
        sticky.move(500, 0);
        sticky.move(300, 0);
        due(sticky, 0, 2, 2, 2, 2, 0, 1);
    }

    private static void border() {
        GainTables t = Look.of("x400 50;x600 20~;");
        check.due("position", t.border(0, 0, 0), 400);
        check.due("kind", t.border(0, 0, 1), 0);
        check.due("reach", t.border(0, 0, 2), 50);
        check.due("position", t.border(0, 1, 0), 600);
        check.due("kind", t.border(0, 1, 1), 1);
        check.due("reach", t.border(0, 1, 2), 20);
        check.due("not so many", t.border(0, 2, 0), Look.NONE);
        check.due("not so many", t.border(0, 6, 0), Look.NONE);
        check.due("not so many", t.border(0, Integer.MAX_VALUE, 2), Look.NONE);
        check.due("not so many", t.border(1, 0, 0), Look.NONE);
        check.due("negative", t.border(0, -1, 0), Look.INVALID);
        check.due("negative", t.border(0, Integer.MIN_VALUE, 0), Look.INVALID);
        check.due("axis -1", t.border(-1, 0, 0), Look.INVALID);
        check.due("axis 2", t.border(2, 0, 0), Look.INVALID);
        check.due("what -1", t.border(0, 0, -1), Look.INVALID);
        check.due("what 3", t.border(0, 0, 3), Look.INVALID);
        check.due("what comes ahead of NONE", t.border(0, 9, 3), Look.INVALID);
        check.due("axis comes ahead of NONE", t.border(2, 9, 0), Look.INVALID);
    }

    private static void region() {
        GainTables t = Look.of("x400 50;y300 1;y600 20~;g1 2 0 9999;g1 2 1 8;g1 2 2 7;");
        t.lock(2, 1, 2, 1);
        int[] due = {9999, 8, 7, 2};
        for (int what = 0; what <= 3; what++) {
            check.due("region", t.region(1, 2, what), due[what]);
            check.due("another", t.region(0, 2, what), what == 3 ? Look.NONE : 0);
        }
        int[][] wrong = {{-1, 0, 0}, {2, 0, 0}, {0, -1, 0}, {0, 3, 0}, {0, 0, -1}, {0, 0, 4}};
        for (int[] w : wrong) {
            check.due("region " + w[0] + " " + w[1] + " " + w[2], t.region(w[0], w[1], w[2]),
                    Look.INVALID);
        }
        for (int far : FAR) {
            check.due("column far", t.region(far, 0, 0), Look.INVALID);
            check.due("row far", t.region(0, far, 0), Look.INVALID);
            check.due("what far", t.region(0, 0, far), Look.INVALID);
        }
    }

    private static void operator() {
        GainTables t = Look.of("x400 50;y300 1;");
        t.setOperator(1, 0, 150);
        t.setOperator(1, 1, 500);
        t.edit(1, 0, 0, 0, 150);
        t.edit(1, 0, 0, 0, 30);
        t.scale(1, 0, 100);
        t.lock(1, 0, 0, 1);
        t.lock(1, 1, 0, 1);
        t.edit(1, 0, 0, 0, 9000);
        int[] due = {150, 230, 2, 6};
        int[] other = {100, 1000, 0, 0};
        for (int what = 0; what <= 3; what++) {
            check.due("operator", t.operator(1, what), due[what]);
            check.due("another", t.operator(2, what), other[what]);
        }
        check.due("operator -1", t.operator(-1, 0), Look.INVALID);
        check.due("operator 3", t.operator(3, 0), Look.INVALID);
        check.due("what -1", t.operator(0, -1), Look.INVALID);
        check.due("what 4", t.operator(0, 4), Look.INVALID);
        for (int far : FAR) {
            check.due("operator far", t.operator(far, 0), Look.INVALID);
            check.due("what far", t.operator(0, far), Look.INVALID);
        }
    }

    private static void account() {
        GainTables t = Look.of("x400 50;g1 0 0 900;");
        t.edit(0, 0, 0, 0, 70);
        t.edit(2, 1, 0, 0, 850);
        int[] due = {70, 0, -50, 900, 920};
        for (int account = 0; account <= 4; account++) {
            check.due("account", t.account(account), due[account]);
        }
        check.due("account -1", t.account(-1), Look.INVALID);
        check.due("account 5", t.account(5), Look.INVALID);
        for (int far : FAR) {
            check.due("account far", t.account(far), Look.INVALID);
        }
    }

    private static void gain() {
        GainTables t = Look.of("x500 10~;y500 50~;g0 0 1 100;g1 0 1 200;g0 1 1 1000;g1 1 1 5001;");
        t.move(495, 525);
        // weights 5 / 20 and 75 / 100
        int numerator = 15 * 25 * 100 + 5 * 25 * 200 + 15 * 75 * 1000 + 5 * 75 * 5001;
        check.due("numerator", t.gain(1, 1), numerator);
        check.due("denominator", t.gain(1, 2), 2000);
        check.due("value", t.gain(1, 0), numerator / 2000);
        check.due("another", t.gain(0, 0), 0);
        check.due("another", t.gain(2, 1), 0);
        check.due("not reduced", t.gain(0, 2), 2000);
        t.move(0, 525);
        check.due("one axis", t.gain(1, 1), 25 * 100 + 75 * 1000);
        check.due("one axis", t.gain(1, 2), 100);
        check.due("gain -1", t.gain(-1, 0), Look.INVALID);
        check.due("gain 3", t.gain(3, 0), Look.INVALID);
        check.due("what -1", t.gain(0, -1), Look.INVALID);
        check.due("what 3", t.gain(0, 3), Look.INVALID);
        for (int far : FAR) {
            check.due("gain far", t.gain(far, 0), Look.INVALID);
            check.due("what far", t.gain(0, far), Look.INVALID);
        }
        GainTables great = Look.of("g0 0 0 9999;x500 100~;y500 100~;");
        check.due("the greatest numerator", great.gain(0, 1), 399960000);
        check.due("the greatest denominator", great.gain(0, 2), 40000);
        check.due("value", great.gain(0, 0), 9999);
    }

    private static void trail() {
        GainTables t = Look.of("x400 50;x600 5;y500 3;g1 1 0 11;g2 0 1 22;g2 0 2 33;");
        check.due("empty", t.trail(0, 0), Look.NONE);
        t.move(700, 300);
        t.move(500, 600);
        int[] latest = {500, 600, 1, 1, 11, 0, 0, 33};
        int[] other = {700, 300, 2, 0, 0, 22, 33, 33};
        for (int what = 0; what <= 7; what++) {
            check.due("trail 0 " + what, t.trail(0, what), latest[what]);
            check.due("trail 1 " + what, t.trail(1, what), other[what]);
            check.due("trail 2 " + what, t.trail(2, what), Look.NONE);
        }
        t.removeBorder(0, 0);
        check.due("an entry stays as it was", t.trail(0, 2), 1);
        check.due("negative", t.trail(-1, 0), Look.INVALID);
        check.due("what -1", t.trail(0, -1), Look.INVALID);
        check.due("what 8", t.trail(0, 8), Look.INVALID);
        check.due("what comes ahead of NONE", t.trail(9, 8), Look.INVALID);
        check.due("far", t.trail(Integer.MAX_VALUE, 0), Look.NONE);
        check.due("far", t.trail(Integer.MIN_VALUE, 0), Look.INVALID);
        check.due("far", t.trail(0, Integer.MAX_VALUE), Look.INVALID);
        check.due("far", t.trail(0, Integer.MIN_VALUE), Look.INVALID);
    }
}
