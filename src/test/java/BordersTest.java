/** Promises 1 to 4: a new object, addBorder, removeBorder, setReach. */
final class BordersTest {
    private static final Check check = new Check("BordersTest");

    public static void main(String[] args) {
        newObject();
        addBorder();
        addBorderAtTheEdges();
        addBorderErrors();
        addBorderSplitsAStrip();
        removeBorder();
        removeBorderMergesStrips();
        setReach();
        setReachErrors();
        zonesAreFoundAnew();
        zonesOfBothAxes();
        sixBorders();
        check.end();
    }

    private static void newObject() {
        GainTables t = new GainTables();
        check.due("the look of a new object", Look.all(t),
                "count 1 0 500 500 0 0 0 0 0 0 0 0\naxis 0 0 1 0 0 0 1\naxis 1 0 1 0 0 0 1\n"
                + "regions (0,0: 0 0 0 -2000000009)\n"
                + "operators 100 1000 0 0, 100 1000 0 0, 100 1000 0 0,\n"
                + "accounts 0 0 0 0 0\ngains 0 0 1 0 0 1 0 0 1\ntrail");
        check.due("undo of a new object", t.undo(), Look.ILLEGAL);
        for (int place = 0; place <= 2; place++) {
            check.due("restore of a new object", t.restore(place), Look.ILLEGAL);
        }
        check.due("constant", GainTables.INVALID_ARGUMENT, -2000000001L);
        check.due("constant", GainTables.ILLEGAL_STATE, -2000000002L);
        check.due("constant", GainTables.CAPACITY_EXCEEDED, -2000000003L);
        check.due("constant", GainTables.NONE, -2000000009L);
    }

    private static void addBorder() {
        GainTables t = new GainTables();
        check.due("first", t.addBorder(0, 500, 0, 10), 0);
        check.due("above", t.addBorder(0, 700, 1, 10), 1);
        check.due("below", t.addBorder(0, 100, 1, 10), 0);
        check.due("between", t.addBorder(0, 300, 0, 0), 1);
        check.due("other axis", t.addBorder(1, 300, 1, 1), 0);
        check.due("history", t.count(9), 5);
        int[] positions = {100, 300, 500, 700};
        int[] kinds = {1, 0, 0, 1};
        int[] reaches = {10, 0, 10, 10};
        for (int b = 0; b < 4; b++) {
            check.due("position", t.border(0, b, 0), positions[b]);
            check.due("kind", t.border(0, b, 1), kinds[b]);
            check.due("reach", t.border(0, b, 2), reaches[b]);
        }
        check.due("regions", t.count(0), 10);
    }

    private static void addBorderAtTheEdges() {
        GainTables t = new GainTables();
        check.due("least position", t.addBorder(0, 1, 1, 1), 0);
        check.due("greatest position", t.addBorder(0, 999, 1, 1), 1);
        check.due("touching a neighbor", t.addBorder(0, 4, 0, 1), 1);
        check.due("overlapping by one", t.addBorder(0, 8, 0, 3), Look.ILLEGAL);
        check.due("just free", t.addBorder(0, 8, 0, 2), 2);
        check.due("greatest reach", t.addBorder(0, 200, 0, 100), 3);
        check.due("inside of what another occupies", t.addBorder(0, 250, 0, 0), Look.ILLEGAL);
        check.due("at its last coordinate", t.addBorder(0, 300, 0, 0), Look.ILLEGAL);
        check.due("at its first coordinate", t.addBorder(0, 100, 0, 0), Look.ILLEGAL);
        check.due("around another", t.addBorder(0, 9, 0, 9), Look.ILLEGAL);
        check.due("a sixth, behind its last coordinate", t.addBorder(0, 301, 0, 0), 4);
        check.due("reach to the axis' end", t.addBorder(1, 100, 1, 100), 0);
        check.due("reach to the axis' other end", t.addBorder(1, 900, 1, 100), 1);
        check.due("a seventh", t.addBorder(0, 302, 0, 0), Look.FULL);
        check.due("a seventh that is occupied", t.addBorder(0, 301, 0, 0), Look.ILLEGAL);
        check.due("a seventh that is outside", t.addBorder(0, 998, 0, 3), Look.INVALID);
    }

    private static void addBorderErrors() {
        GainTables t = new GainTables();
        int[][] wrong = {{-1, 500, 0, 5}, {2, 500, 0, 5}, {0, 0, 0, 0}, {0, 1000, 0, 0},
            {0, 500, -1, 5}, {0, 500, 2, 5}, {0, 500, 0, -1}, {0, 500, 0, 101}, {0, 500, 1, 0},
            {0, 500, 1, 101}, {0, 9, 0, 10}, {0, 991, 0, 10}, {1, 99, 1, 100}, {1, 901, 1, 100},
            {Integer.MIN_VALUE, 500, 0, 5}, {Integer.MAX_VALUE, 500, 0, 5},
            {0, Integer.MIN_VALUE, 0, 5}, {0, Integer.MAX_VALUE, 0, 5},
            {0, 500, Integer.MIN_VALUE, 5}, {0, 500, 0, Integer.MAX_VALUE},
            {0, 500, 0, Integer.MIN_VALUE}};
        String look = Look.all(t);
        for (int[] w : wrong) {
            check.due("addBorder " + w[0] + " " + w[1] + " " + w[2] + " " + w[3],
                    t.addBorder(w[0], w[1], w[2], w[3]), Look.INVALID);
        }
        check.due("unchanged", Look.all(t), look);
        check.due("just inside", t.addBorder(0, 10, 0, 10), 0);
        check.due("just inside", t.addBorder(0, 990, 0, 10), 1);
    }

    private static void addBorderSplitsAStrip() {
        GainTables t = Look.rich("x400 5;y600 5;g0 0 0 1;g0 1 0 20;g1 0 0 300;g1 1 0 4000;g1 1 2 7;");
        t.lock(1, 1, 1, 1);
        check.due("account 3 ahead", t.account(3), 4328);
        check.due("a column", t.addBorder(0, 300, 1, 3), 0);
        int[][] due = {{1, 20}, {1, 20}, {300, 4000}};
        for (int column = 0; column < 3; column++) {
            for (int row = 0; row < 2; row++) {
                check.due("gain", t.region(column, row, 0), due[column][row]);
            }
        }
        check.due("account 3", t.account(3), 4349);
        check.due("a row", t.addBorder(1, 700, 1, 3), 1);
        int[][] then = {{1, 20, 20}, {1, 20, 20}, {300, 4000, 4000}};
        for (int column = 0; column < 3; column++) {
            for (int row = 0; row < 3; row++) {
                check.due("gain", t.region(column, row, 0), then[column][row]);
                check.due("lock", t.region(column, row, 3),
                        column == 2 && row >= 1 ? 1 : Look.NONE);
            }
        }
        check.due("gain 2", t.region(2, 2, 2), 7);
        check.due("account 3", t.account(3), 8396);
        check.due("all accounts", t.account(4), 8396);
        check.due("locks", t.operator(1, 2), 2);
    }

    private static void removeBorder() {
        GainTables t = Look.of("x100 0;x200 1~;x300 2;y400 3;");
        check.due("axis -1", t.removeBorder(-1, 0), Look.INVALID);
        check.due("axis 2", t.removeBorder(2, 0), Look.INVALID);
        check.due("border -1", t.removeBorder(0, -1), Look.INVALID);
        check.due("border 3", t.removeBorder(0, 3), Look.INVALID);
        check.due("border 1 of axis 1", t.removeBorder(1, 1), Look.INVALID);
        check.due("no change", t.count(9), 1);
        check.due("middle", t.removeBorder(0, 1), 2);
        check.due("history", t.count(9), 2);
        check.due("first", t.border(0, 0, 0), 100);
        check.due("second", t.border(0, 1, 0), 300);
        check.due("its reach", t.border(0, 1, 2), 2);
        check.due("third", t.border(0, 2, 0), Look.NONE);
        check.due("last", t.removeBorder(0, 1), 1);
        check.due("only", t.removeBorder(0, 0), 0);
        check.due("none", t.removeBorder(0, 0), Look.INVALID);
        check.due("other axis", t.removeBorder(1, 0), 0);
        check.due("regions", t.count(0), 1);
    }

    private static void removeBorderMergesStrips() {
        GainTables t = Look.of("x100 0;x200 0;y100 0;y200 0;g0 0 1 1;g1 0 1 2;g2 0 1 4;"
                + "g0 1 1 8;g1 1 1 16;g2 1 1 32;g0 2 1 64;g1 2 1 128;g2 2 1 256;");
        t.lock(0, 1, 1, 1);
        t.lock(2, 2, 1, 1);
        check.due("sum", t.account(3), 511);
        check.due("a column", t.removeBorder(0, 0), 1);
        int[][] due = {{1, 8, 64}, {4, 32, 256}};
        for (int column = 0; column < 2; column++) {
            for (int row = 0; row < 3; row++) {
                check.due("gain", t.region(column, row, 1), due[column][row]);
            }
        }
        check.due("lock that went", t.operator(0, 2), 0);
        check.due("lock that stays", t.region(1, 1, 3), 2);
        check.due("account 3", t.account(3), 365);
        check.due("a row", t.removeBorder(1, 1), 1);
        check.due("gain", t.region(0, 1, 1), 8);
        check.due("gain", t.region(1, 1, 1), 32);
        check.due("lock", t.region(1, 1, 3), 2);
        check.due("account 3", t.account(3), 45);
        check.due("all", t.account(4), 45);
        check.due("add again", t.addBorder(1, 300, 0, 0), 1);
        check.due("gain of the new strip", t.region(0, 2, 1), 8);
    }

    private static void setReach() {
        GainTables t = Look.of("x100 10;x200 20~;y999 1;");
        check.due("sticky to 0", t.setReach(0, 0, 0), 10);
        check.due("reach", t.border(0, 0, 2), 0);
        check.due("up to the neighbor", t.setReach(0, 0, 79), 0);
        check.due("onto the neighbor", t.setReach(0, 0, 80), Look.ILLEGAL);
        check.due("its own reach again", t.setReach(0, 0, 79), 79);
        check.due("history", t.count(9), 4);
        check.due("blending", t.setReach(0, 1, 1), 20);
        check.due("blending", t.setReach(0, 1, 20), 1);
        check.due("blending to the neighbor", t.setReach(0, 1, 21), Look.ILLEGAL);
        check.due("away", t.setReach(0, 0, 0), 79);
        check.due("blending to the neighbor", t.setReach(0, 1, 99), 20);
        check.due("blending onto the neighbor", t.setReach(0, 1, 100), Look.ILLEGAL);
        check.due("no account", t.account(3), 0);
    }

    private static void setReachErrors() {
        GainTables t = Look.of("x50 10;x200 20~;y999 1;");
        String look = Look.all(t);
        int[][] wrong = {{-1, 0, 5}, {2, 0, 5}, {0, -1, 5}, {0, 2, 5}, {1, 1, 5}, {0, 0, -1},
            {0, 0, 101}, {0, 1, 0}, {0, 1, 101}, {0, 0, 51}, {1, 0, 2}, {0, 0, Integer.MAX_VALUE},
            {0, 0, Integer.MIN_VALUE}, {0, Integer.MAX_VALUE, 1}, {Integer.MIN_VALUE, 0, 1}};
        for (int[] w : wrong) {
            check.due("setReach " + w[0] + " " + w[1] + " " + w[2], t.setReach(w[0], w[1], w[2]),
                    Look.INVALID);
        }
        check.due("unchanged", Look.all(t), look);
        GainTables near = Look.of("x50 10;x120 20;");
        check.due("outside comes ahead of occupied", near.setReach(0, 0, 51), Look.INVALID);
        check.due("occupied", near.setReach(0, 0, 50), Look.ILLEGAL);
    }

    /** The hysteresis of a sticky border is forgotten when borders or reaches change. */
    private static void zonesAreFoundAnew() {
        GainTables t = Look.of("x400 50;");
        t.move(440, 500);
        check.due("above the position", t.count(4), 1);
        t.move(360, 500);
        check.due("still above", t.count(4), 1);
        t.addBorder(1, 100, 1, 5);
        check.due("anew after addBorder", t.count(4), 0);
        t.move(440, 500);
        check.due("still below", t.count(4), 0);
        t.setReach(0, 0, 45);
        check.due("anew after setReach", t.count(4), 1);
        t.move(360, 500);
        check.due("still above", t.count(4), 1);
        t.removeBorder(1, 0);
        check.due("anew after removeBorder", t.count(4), 0);
        t.move(400, 500);
        check.due("still below", t.count(4), 0);
        t.setReach(0, 0, 44);
        check.due("at the position is above", t.count(4), 1);
    }

    private static void zonesOfBothAxes() {
        GainTables t = Look.of("x400 50;y600 50;");
        t.move(300, 700);
        check.due("zone", t.count(4) * 10 + t.count(5), 1);
        t.addBorder(0, 200, 0, 0);
        check.due("each by its own coordinate", t.count(4) * 10 + t.count(5), 11);
        t.move(380, 560);
        t.setReach(0, 0, 1);
        check.due("the other axis anew, too", t.count(4) * 10 + t.count(5), 10);
        t.move(440, 640);
        check.due("both stick", t.count(4) * 10 + t.count(5), 10);
        t.removeBorder(0, 0);
        check.due("both anew", t.count(4) * 10 + t.count(5), 11);
    }

    /** A full axis, and what stays in its rooms when it is full no more. */
    private static void sixBorders() {
        GainTables t = Look.rich("x100 9;x200 9;x300 9;x400 9;x500 9;x600 9;");
        for (int column = 0; column <= 6; column++) {
            check.due("edit", t.edit(0, column, 0, 0, 10 + column), 0);
            check.due("value", t.valueAt(50 + 100 * column, 0, 0), 10 + column);
        }
        check.due("all zones", t.axis(0, 1), 7);
        check.due("move", t.move(0, 0), 5);
        check.due("remove the third", t.removeBorder(0, 2), 5);
        int[] positions = {100, 200, 400, 500, 600, Look.NONE};
        int[] gains = {10, 11, 12, 14, 15, 16, Look.INVALID};
        for (int b = 0; b < 6; b++) {
            check.due("position", t.border(0, b, 0), positions[b]);
            check.due("gain", t.region(b, 0, 0), gains[b]);
        }
        check.due("the sixth again", t.addBorder(0, 900, 1, 100), 5);
        check.due("move into it", t.move(900, 0), 6);
        check.due("blends", t.axis(0, 5), 200);
        check.due("remove the last", t.removeBorder(0, 5), 5);
        check.due("blends no more", t.axis(0, 5), 1);
        check.due("strip", t.axis(0, 3), 5);
        check.due("chatter of what is no more", t.chatter(0, 900, 100, 9), 0);
    }
}
