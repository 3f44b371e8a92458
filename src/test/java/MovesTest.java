/** Promises 9 to 11: setMargin, move, sweep. */
final class MovesTest {
    private static final Check check = new Check("MovesTest");

    public static void main(String[] args) {
        setMargin();
        move();
        moveIgnored();
        moveErrors();
        zonesStick();
        zonesOverSeveralBorders();
        jumpIsTheGreatest();
        trailKeepsTwenty();
        sweep();
        sweepWithMargin();
        sweepCountsChanges();
        sweepErrors();
        check.end();
    }

    private static void setMargin() {
        GainTables t = new GainTables();
        check.due("greatest", t.setMargin(50), 0);
        check.due("least", t.setMargin(0), 50);
        check.due("some", t.setMargin(7), 0);
        check.due("count", t.count(1), 7);
        check.due("history", t.count(9), 3);
        for (int wrong : new int[] {-1, 51, Integer.MIN_VALUE, Integer.MAX_VALUE}) {
            check.due("margin " + wrong, t.setMargin(wrong), Look.INVALID);
        }
        check.due("count", t.count(1), 7);
        check.due("history", t.count(9), 3);
    }

    private static void move() {
        GainTables t = Look.of("x500 100~;g0 0 0 1000;g1 0 0 2001;g1 0 1 10;");
        check.due("value", t.gain(0, 0), 1500);
        check.due("to the low end", t.move(400, 0), 500);
        check.due("value", t.gain(0, 0), 1000);
        check.due("to the high end", t.move(600, 1000), 1001);
        check.due("one below", t.move(599, 1000), 6);
        check.due("value rounded down", t.gain(0, 0), 1995);
        check.due("to where it is", t.move(599, 1000), 0);
        check.due("moves", t.count(8), 4);
        check.due("ignored", t.count(7), 0);
        check.due("x", t.count(2), 599);
        check.due("y", t.count(3), 1000);
        check.due("corner", t.move(0, 0), 995);
        check.due("corner", t.move(1000, 1000), 1001);
        check.due("history", t.count(9), 5);
    }

    private static void moveIgnored() {
        GainTables t = new GainTables();
        t.setMargin(10);
        check.due("both less", t.move(509, 491), Look.NONE);
        check.due("to where it is", t.move(500, 500), Look.NONE);
        check.due("point", t.count(2), 500);
        check.due("ignored", t.count(7), 2);
        check.due("no entry", t.count(6), 0);
        check.due("an action", t.count(9), 3);
        check.due("one as much", t.move(510, 500), 0);
        check.due("other as much", t.move(510, 490), 0);
        check.due("from the new point", t.move(501, 481), Look.NONE);
        check.due("moves", t.count(8), 2);
        check.due("ignored", t.count(7), 3);
        check.due("entries", t.count(6), 2);
        t.setMargin(0);
        check.due("margin 0 ignores nothing", t.move(510, 490), 0);
    }

    private static void moveErrors() {
        GainTables t = new GainTables();
        t.setMargin(50);
        String look = Look.all(t);
        int[][] wrong = {{-1, 500}, {1001, 500}, {500, -1}, {500, 1001}, {Integer.MIN_VALUE, 500},
            {500, Integer.MAX_VALUE}};
        for (int[] w : wrong) {
            check.due("move " + w[0] + " " + w[1], t.move(w[0], w[1]), Look.INVALID);
        }
        check.due("unchanged", Look.all(t), look);
    }

    private static void zonesStick() {
        GainTables t = Look.of("x400 50;y700 0;");
        check.due("zones", t.count(4) * 10 + t.count(5), 10);
        t.move(350, 699);
        check.due("not less than position minus reach", t.count(4), 1);
        check.due("zone", t.count(5), 0);
        t.move(349, 700);
        check.due("less", t.count(4), 0);
        check.due("at a position with reach 0", t.count(5), 1);
        t.move(449, 699);
        check.due("less than position plus reach", t.count(4), 0);
        check.due("below a position with reach 0", t.count(5), 0);
        t.move(450, 699);
        check.due("at position plus reach", t.count(4), 1);
    }

    private static void zonesOverSeveralBorders() {
        GainTables t = Look.of("x100 10;x200 20;x300 30~;x400 40;");
        check.due("zone", t.count(4), 3);
        check.due("zones", t.axis(0, 1), 4);
        t.move(360, 0);
        check.due("not left", t.count(4), 3);
        t.move(180, 0);
        check.due("over one", t.count(4), 2);
        t.move(0, 0);
        check.due("over two", t.count(4), 0);
        t.move(110, 0);
        check.due("over one", t.count(4), 1);
        t.move(439, 0);
        check.due("over one, not the next", t.count(4), 2);
        t.move(0, 0);
        t.move(1000, 0);
        check.due("over all", t.count(4), 3);
    }

    private static void jumpIsTheGreatest() {
        GainTables t = Look.of("x500 0;g0 0 0 10;g0 0 1 300;g0 0 2 40;g1 0 0 20;g1 0 1 5;g1 0 2 90;");
        check.due("down", t.move(499, 500), 295);
        check.due("up", t.move(500, 500), 295);
        check.due("jump", t.trail(0, 7), 295);
        check.due("value", t.trail(0, 4), 20);
        check.due("value", t.trail(0, 5), 5);
        check.due("value", t.trail(0, 6), 90);
        check.due("value", t.trail(1, 6), 40);
        GainTables edited = Look.rich("");
        edited.edit(0, 0, 0, 0, 700);
        check.due("an edit is no jump", edited.move(1, 1), 0);
        check.due("value", edited.trail(0, 4), 700);
    }

    private static void trailKeepsTwenty() {
        GainTables t = new GainTables();
        for (int i = 1; i <= 25; i++) {
            t.move(i, 2 * i);
            check.due("entries", t.count(6), Math.min(i, 20));
        }
        check.due("moves", t.count(8), 25);
        for (int back = 0; back < 20; back++) {
            check.due("x", t.trail(back, 0), 25 - back);
            check.due("y", t.trail(back, 1), 50 - 2 * back);
        }
        check.due("no more", t.trail(20, 0), Look.NONE);
    }

    private static void sweep() {
        GainTables t = new GainTables();
        check.due("up", t.sweep(0, 517, 5), 0);
        int[] places = {517, 515, 510, 505};
        for (int back = 0; back < 4; back++) {
            check.due("place", t.trail(back, 0), places[back]);
            check.due("other coordinate", t.trail(back, 1), 500);
        }
        check.due("moves", t.count(8), 4);
        check.due("one action", t.count(9), 1);
        check.due("down", t.sweep(1, 480, 10), 0);
        check.due("place", t.trail(0, 1), 480);
        check.due("place", t.trail(1, 1), 490);
        check.due("moves", t.count(8), 6);
        check.due("one step over all", t.sweep(1, 1000, 1000), 0);
        check.due("moves", t.count(8), 7);
        check.due("to 0", t.sweep(1, 0, 1), 0);
        check.due("a thousand moves", t.count(8), 1007);
        check.due("up all the way", t.sweep(1, 1000, 999), 0);
        check.due("place", t.trail(1, 1), 999);
        check.due("moves", t.count(8), 1009);
    }

    private static void sweepWithMargin() {
        GainTables t = new GainTables();
        t.setMargin(10);
        check.due("sweep", t.sweep(0, 528, 6), 0);
        check.due("the last two are ignored", t.count(2), 524);
        check.due("moves", t.count(8), 2);
        check.due("ignored", t.count(7), 3);
        check.due("again, the rest is ignored", t.sweep(0, 528, 6), 0);
        check.due("place", t.count(2), 524);
        check.due("moves", t.count(8), 2);
        check.due("ignored", t.count(7), 4);
        check.due("an action", t.count(9), 3);
    }

    private static void sweepCountsChanges() {
        GainTables t = Look.of("x100 10;x200 0;x300 30~;x700 40;y500 5;");
        check.due("down over two", t.sweep(0, 0, 7), 2);
        check.due("up in one move", t.sweep(0, 1000, 1000), 1);
        check.due("down by single steps", t.sweep(0, 0, 1), 3);
        check.due("zone", t.count(4), 0);
        check.due("other axis", t.count(5), 1);
        check.due("rows", t.sweep(1, 495, 1), 0);
        check.due("rows", t.sweep(1, 494, 1), 1);
        check.due("rows", t.sweep(1, 504, 1), 0);
        check.due("rows", t.sweep(1, 505, 1), 1);
        t.move(333, 0);
        check.due("rows alone", t.sweep(1, 50, 30), 0);
        for (int back = 0; back < 2; back++) {
            check.due("the other coordinate stays", t.trail(back, 0), 333);
            check.due("the coordinate", t.trail(back, 1), 50 - 20 * back);
        }
        check.due("columns alone", t.sweep(0, 300, 30), 0);
        check.due("the other coordinate stays", t.trail(1, 1), 50);
        check.due("the coordinate", t.trail(1, 0), 303);
    }

    private static void sweepErrors() {
        GainTables t = new GainTables();
        String look = Look.all(t);
        int[][] wrong = {{-1, 0, 5}, {2, 0, 5}, {0, -1, 5}, {0, 1001, 5}, {0, 0, 0}, {0, 0, 1001},
            {0, 500, 0}, {0, Integer.MIN_VALUE, 5}, {0, 0, Integer.MAX_VALUE}, {0, 0, -5}};
        for (int[] w : wrong) {
            check.due("sweep " + w[0] + " " + w[1] + " " + w[2], t.sweep(w[0], w[1], w[2]),
                    Look.INVALID);
        }
        check.due("there already", t.sweep(0, 500, 5), Look.ILLEGAL);
        check.due("there already", t.sweep(1, 500, 5), Look.ILLEGAL);
        check.due("unchanged", Look.all(t), look);
    }
}
