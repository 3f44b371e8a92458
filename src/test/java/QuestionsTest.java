/** Promises 26 to 31: refusal, effect, valueAt, chatter, calmReach, steepest. */
final class QuestionsTest {
    private static final Check check = new Check("QuestionsTest");

    public static void main(String[] args) {
        refusal();
        refusalErrors();
        effect();
        effectErrors();
        valueAt();
        valueAtErrors();
        chatter();
        chatterErrors();
        calmReach();
        calmReachOfThePoint();
        calmReachErrors();
        steepest();
        steepestErrors();
        check.end();
    }

    private static void refusal() {
        GainTables t = Look.of("x400 50;g0 0 0 500;");
        t.setOperator(0, 1, 50);
        check.due("none", t.refusal(0, 0, 0, 0, 550), 0);
        check.due("none", t.refusal(0, 0, 0, 0, 450), 0);
        check.due("budget", t.refusal(0, 0, 0, 0, 551), 3);
        check.due("budget", t.refusal(0, 0, 0, 0, 449), 3);
        check.due("budget", t.refusal(0, 0, 0, 0, 600), 3);
        check.due("step ahead of budget", t.refusal(0, 0, 0, 0, 601), 2);
        check.due("step", t.refusal(0, 0, 0, 0, 399), 2);
        check.due("another operator", t.refusal(1, 0, 0, 0, 600), 0);
        t.lock(1, 0, 0, 1);
        check.due("lock ahead of the others", t.refusal(0, 0, 0, 0, 9999), 1);
        check.due("lock", t.refusal(0, 0, 0, 0, 500), 1);
        check.due("its own lock", t.refusal(1, 0, 0, 0, 600), 0);
        check.due("its own lock", t.refusal(1, 0, 0, 0, 601), 2);
        check.due("another region", t.refusal(0, 1, 0, 0, 1), 0);
        check.due("no change", t.operator(0, 3) + t.operator(1, 3), 0);
    }

    private static void refusalErrors() {
        GainTables t = Look.of("x400 50;");
        int[][] wrong = {{-1, 0, 0, 0, 5}, {3, 0, 0, 0, 5}, {0, -1, 0, 0, 5}, {0, 2, 0, 0, 5},
            {0, 0, -1, 0, 5}, {0, 0, 1, 0, 5}, {0, 0, 0, -1, 5}, {0, 0, 0, 3, 5}, {0, 0, 0, 0, -1},
            {0, 0, 0, 0, 10000}, {0, 0, 0, 0, Integer.MAX_VALUE}, {0, Integer.MAX_VALUE, 0, 0, 1}};
        for (int[] w : wrong) {
            check.due("refusal " + w[0] + " " + w[1] + " " + w[2] + " " + w[3] + " " + w[4],
                    t.refusal(w[0], w[1], w[2], w[3], w[4]), Look.INVALID);
        }
        check.due("edges", t.refusal(2, 1, 0, 2, 9999), 2);
    }

    private static void effect() {
        GainTables t = Look.of("x400 50;y600 5;g0 0 0 10;g1 0 0 10;g1 1 2 1;");
        t.setMargin(10);
        String look = Look.all(t);
        check.due("ignored", t.effect(509, 509), 0);
        check.due("ignored", t.effect(500, 500), 0);
        check.due("a move", t.effect(510, 500), 1);
        check.due("not yet less", t.effect(350, 500), 1);
        check.due("zone 0, same values", t.effect(349, 500), 3);
        check.due("not yet", t.effect(500, 604), 1);
        check.due("zone 1 and a value", t.effect(500, 605), 13);
        check.due("zones and a value", t.effect(0, 1000), 15);
        check.due("unchanged", Look.all(t), look);
        GainTables blend = Look.of("x600 50~;g0 0 0 10;g1 0 0 30;");
        check.due("values rounded down", blend.effect(554, 500), 1);
        check.due("a value", blend.effect(555, 500), 9);
        GainTables same = Look.of("x400 50;y600 5;g0 0 0 7;g1 0 0 7;g0 1 0 7;g1 1 0 7;");
        check.due("both zones, no value", same.effect(0, 1000), 7);
        GainTables asked = Look.of("x400 50;g1 0 2 9;");
        check.due("asked elsewhere", asked.valueAt(0, 0, 2), 0);
        check.due("the values ahead are those at the point", asked.effect(600, 500), 1);
        check.due("asked elsewhere", asked.valueAt(0, 0, 2), 0);
        check.due("the values ahead are those at the point", asked.effect(0, 500), 11);
        check.due("asked elsewhere", asked.steepest(1, 2, 0), 0);
        check.due("the value at the point", asked.gain(2, 0), 9);
    }

    private static void effectErrors() {
        GainTables t = new GainTables();
        t.setMargin(50);
        int[][] wrong = {{-1, 500}, {1001, 500}, {500, -1}, {500, 1001}, {Integer.MAX_VALUE, 500},
            {500, Integer.MIN_VALUE}};
        for (int[] w : wrong) {
            check.due("effect " + w[0] + " " + w[1], t.effect(w[0], w[1]), Look.INVALID);
        }
        check.due("corner", t.effect(0, 0), 1);
        check.due("corner", t.effect(1000, 1000), 1);
    }

    private static void valueAt() {
        GainTables t = Look.of("x400 50;x700 30~;y500 20~;g0 0 0 100;g1 0 0 200;g2 0 0 300;"
                + "g0 1 0 1000;g1 1 0 2000;g2 1 0 3001;");
        t.move(440, 500);
        check.due("the active zone does not matter", t.valueAt(399, 0, 0), 100);
        check.due("at the position", t.valueAt(400, 0, 0), 200);
        t.move(0, 0);
        check.due("the active zone does not matter", t.valueAt(400, 0, 0), 200);
        check.due("row", t.valueAt(0, 520, 0), 1000);
        check.due("row", t.valueAt(0, 480, 0), 100);
        check.due("row", t.valueAt(0, 500, 0), 550);
        int numerator = 30 * 20 * 200 + 30 * 20 * 300 + 30 * 20 * 2000 + 30 * 20 * 3001;
        check.due("both", t.valueAt(700, 500, 0), numerator / 2400);
        check.due("corner", t.valueAt(0, 0, 0), 100);
        check.due("corner", t.valueAt(1000, 1000, 0), 3001);
        check.due("another gain", t.valueAt(1000, 1000, 1), 0);
        check.due("point stays", t.count(2), 0);
    }

    private static void valueAtErrors() {
        GainTables t = new GainTables();
        int[][] wrong = {{-1, 500, 0}, {1001, 500, 0}, {500, -1, 0}, {500, 1001, 0}, {500, 500, -1},
            {500, 500, 3}, {Integer.MAX_VALUE, 0, 0}, {0, Integer.MIN_VALUE, 0},
            {0, 0, Integer.MAX_VALUE}};
        for (int[] w : wrong) {
            check.due("valueAt " + w[0] + " " + w[1] + " " + w[2], t.valueAt(w[0], w[1], w[2]),
                    Look.INVALID);
        }
    }

    private static void chatter() {
        GainTables t = Look.of("x400 50;y500 0;y520 9~;y540 0;");
        t.setMargin(50);
        String look = Look.all(t);
        check.due("within the reach", t.chatter(0, 400, 50, 100), 0);
        check.due("over it", t.chatter(0, 400, 51, 1), 0);
        check.due("over it", t.chatter(0, 400, 51, 2), 1);
        check.due("over it", t.chatter(0, 400, 51, 100), 99);
        check.due("once", t.chatter(0, 200, 10, 100), 1);
        check.due("no amplitude", t.chatter(0, 0, 0, 100), 1);
        check.due("no amplitude", t.chatter(0, 1000, 0, 100), 0);
        check.due("the greatest amplitude", t.chatter(0, 500, 500, 100), 99);
        check.due("row", t.chatter(1, 500, 0, 5), 0);
        check.due("row", t.chatter(1, 500, 1, 5), 4);
        check.due("over two borders at once", t.chatter(1, 520, 100, 1), 1);
        check.due("over two borders at once", t.chatter(1, 520, 100, 2), 2);
        check.due("unchanged", Look.all(t), look);
        t.move(349, 0);
        check.due("from the present zone", t.chatter(0, 400, 50, 100), 1);
        check.due("from the present zone", t.chatter(0, 400, 49, 100), 0);
        check.due("from the present zone", t.chatter(0, 400, 51, 100), 100);
    }

    private static void chatterErrors() {
        GainTables t = new GainTables();
        int[][] wrong = {{-1, 500, 5, 5}, {2, 500, 5, 5}, {0, -1, 0, 5}, {0, 1001, 0, 5},
            {0, 500, -1, 5}, {0, 500, 501, 5}, {0, 500, 5, 0}, {0, 500, 5, 101}, {0, 4, 5, 5},
            {0, 996, 5, 5}, {0, 4, 5, 1}, {0, Integer.MAX_VALUE, 5, 5}, {0, Integer.MIN_VALUE, 5, 5},
            {0, 500, Integer.MAX_VALUE, 5}, {0, 500, Integer.MIN_VALUE, 5},
            {0, 500, 5, Integer.MAX_VALUE}};
        for (int[] w : wrong) {
            check.due("chatter " + w[0] + " " + w[1] + " " + w[2] + " " + w[3],
                    t.chatter(w[0], w[1], w[2], w[3]), Look.INVALID);
        }
        check.due("edges", t.chatter(0, 5, 5, 1), 0);
        check.due("edges", t.chatter(1, 995, 5, 100), 0);
    }

    private static void calmReach() {
        GainTables t = Look.of("x300 10;x400 50;x500 5~;y50 7;y900 0;");
        String look = Look.all(t);
        check.due("amplitude 0", t.calmReach(0, 1, 0), 0);
        check.due("amplitude 1", t.calmReach(0, 1, 1), 1);
        check.due("up to the neighbor", t.calmReach(0, 1, 89), 89);
        check.due("onto the neighbor", t.calmReach(0, 1, 90), Look.NONE);
        check.due("the other neighbor", t.calmReach(0, 0, 49), 49);
        check.due("the other neighbor", t.calmReach(0, 0, 50), Look.NONE);
        check.due("outside of the axis", t.calmReach(1, 0, 50), 50);
        check.due("the greatest reach", t.calmReach(1, 1, 100), 100);
        check.due("unchanged", Look.all(t), look);
        check.due("a reach beyond 100", Look.of("x500 1;").calmReach(0, 0, 101), Look.NONE);
        check.due("the greatest amplitude", Look.of("x500 1;").calmReach(0, 0, 500), Look.NONE);
        check.due("a neighbor changes too", Look.of("x400 0;x403 1;").calmReach(0, 0, 4), Look.NONE);
    }

    /** The zones are found anew by the point, not taken as they are. */
    private static void calmReachOfThePoint() {
        GainTables t = Look.of("x400 50;");
        t.move(440, 0);
        t.move(360, 0);
        check.due("active above", t.count(4), 1);
        check.due("anew below: one change is left", t.calmReach(0, 0, 20), 20);
        GainTables zero = Look.of("x400 0;x410 9;x480 60;");
        zero.move(0, 0);
        check.due("active below", zero.count(4), 0);
        check.due("one way only", zero.calmReach(0, 0, 0), 0);
    }

    private static void calmReachErrors() {
        GainTables t = Look.of("x20 10;x400 50~;");
        int[][] wrong = {{-1, 0, 5}, {2, 0, 5}, {0, -1, 5}, {0, 2, 5}, {1, 0, 5}, {0, 0, -1},
            {0, 0, 501}, {0, 0, 21}, {0, 1, 401}, {0, 1, -1}, {0, 0, Integer.MAX_VALUE},
            {0, 0, Integer.MIN_VALUE}, {0, Integer.MAX_VALUE, 5}};
        for (int[] w : wrong) {
            check.due("calmReach " + w[0] + " " + w[1] + " " + w[2], t.calmReach(w[0], w[1], w[2]),
                    Look.INVALID);
        }
        check.due("blending", t.calmReach(0, 1, 400), Look.ILLEGAL);
        check.due("sticky", t.calmReach(0, 0, 20), 20);
    }

    private static void steepest() {
        GainTables t = Look.of("x400 50;x700 10~;y500 20;g0 0 0 100;g1 0 0 350;g2 0 0 50;g2 1 0 51;");
        t.move(0, 0);
        check.due("at the sticky border", t.steepest(0, 0, 0), 250);
        check.due("its lower coordinate", t.steepest(0, 0, 1), 399);
        check.due("nothing", t.steepest(0, 1, 0), 0);
        check.due("nothing", t.steepest(0, 1, 1), 0);
        check.due("along the rows", t.steepest(1, 0, 0), 100);
        check.due("along the rows", t.steepest(1, 0, 1), 499);
        t.move(1000, 500);
        check.due("the other coordinate's zone by its position", t.count(5), 0);
        check.due("row 1 alone", t.steepest(0, 0, 0), 3);
        check.due("row 1 alone", t.steepest(0, 0, 1), 691);
        check.due("one", t.steepest(1, 0, 0), 1);
        t.move(0, 1000);
        check.due("along the columns at the point's row", t.steepest(0, 0, 1), 691);
        check.due("along the rows at the point's column", t.steepest(1, 0, 0), 100);
        t.move(1000, 0);
        check.due("along the columns at the point's row", t.steepest(0, 0, 1), 399);
        check.due("along the rows at the point's column", t.steepest(1, 0, 0), 1);
        GainTables both = Look.of("x1 0;x999 0;g0 0 2 5;g2 0 2 5;");
        check.due("of several the smallest", both.steepest(0, 2, 1), 0);
        check.due("difference", both.steepest(0, 2, 0), 5);
        GainTables rows = Look.of("y1 0;y999 0;g0 0 2 5;g0 2 2 5;");
        check.due("of several the smallest", rows.steepest(1, 2, 1), 0);
        check.due("difference", rows.steepest(1, 2, 0), 5);
        GainTables last = Look.of("x999 1~;g1 0 2 6;");
        check.due("the last", last.steepest(0, 2, 1), 998);
        check.due("difference", last.steepest(0, 2, 0), 3);
    }

    private static void steepestErrors() {
        GainTables t = new GainTables();
        int[][] wrong = {{-1, 0, 0}, {2, 0, 0}, {0, -1, 0}, {0, 3, 0}, {0, 0, -1}, {0, 0, 2},
            {Integer.MAX_VALUE, 0, 0}, {0, Integer.MIN_VALUE, 0}, {0, 0, Integer.MAX_VALUE}};
        for (int[] w : wrong) {
            check.due("steepest " + w[0] + " " + w[1] + " " + w[2], t.steepest(w[0], w[1], w[2]),
                    Look.INVALID);
        }
    }
}
