/** Promises 5 to 8: setOperator, edit, scale, lock. */
final class OperatorsTest {
    private static final Check check = new Check("OperatorsTest");

    public static void main(String[] args) {
        setOperator();
        edit();
        editErrors();
        editRefusals();
        scale();
        scaleLeavesOutRefused();
        scaleErrors();
        lock();
        lockErrors();
        check.end();
    }

    private static void setOperator() {
        GainTables t = new GainTables();
        check.due("step", t.setOperator(0, 0, 9999), 100);
        check.due("step", t.setOperator(0, 0, 1), 9999);
        check.due("step", t.operator(0, 0), 1);
        check.due("budget", t.setOperator(2, 1, 99999), 1000);
        check.due("budget", t.setOperator(2, 1, 0), 99999);
        check.due("budget", t.operator(2, 1), 0);
        check.due("other step", t.operator(2, 0), 100);
        check.due("other operator", t.operator(1, 1), 1000);
        check.due("history", t.count(9), 4);
        int[][] wrong = {{-1, 0, 5}, {3, 0, 5}, {0, -1, 5}, {0, 2, 5}, {0, 0, 0}, {0, 0, 10000},
            {0, 1, -1}, {0, 1, 100000}, {0, 0, -1}, {Integer.MIN_VALUE, 0, 5},
            {Integer.MAX_VALUE, 0, 5}, {0, Integer.MAX_VALUE, 5}, {0, 0, Integer.MAX_VALUE},
            {0, 1, Integer.MIN_VALUE}};
        String look = Look.all(t);
        for (int[] w : wrong) {
            check.due("setOperator " + w[0] + " " + w[1] + " " + w[2],
                    t.setOperator(w[0], w[1], w[2]), Look.INVALID);
        }
        check.due("unchanged", Look.all(t), look);
    }

    private static void edit() {
        GainTables t = Look.of("x500 1;y500 1;");
        check.due("up", t.edit(0, 1, 0, 2, 100), 0);
        check.due("down", t.edit(0, 1, 0, 2, 30), 100);
        check.due("to what it has", t.edit(0, 1, 0, 2, 30), 30);
        check.due("by another", t.edit(1, 1, 0, 2, 90), 30);
        check.due("gain", t.region(1, 0, 2), 90);
        check.due("other gains", t.region(1, 0, 1) + t.region(0, 1, 2) + t.region(0, 0, 2), 0);
        check.due("budget", t.operator(0, 1), 830);
        check.due("budget", t.operator(1, 1), 940);
        check.due("edits", t.operator(0, 3), 3);
        check.due("edits", t.operator(1, 3), 1);
        check.due("account", t.account(0), 30);
        check.due("account", t.account(1), 60);
        check.due("account", t.account(3), 0);
        check.due("all", t.account(4), 90);
        check.due("history", t.count(9), 5);
        GainTables rich = Look.rich("");
        check.due("greatest value", rich.edit(0, 0, 0, 0, 9999), 0);
        check.due("least value", rich.edit(0, 0, 0, 0, 0), 9999);
        check.due("budget", rich.operator(0, 1), 80001);
    }

    private static void editErrors() {
        GainTables t = Look.rich("x500 1;y300 1;y500 1;");
        t.lock(1, 0, 0, 1);
        String look = Look.all(t);
        int[][] wrong = {{-1, 0, 0, 0, 5}, {3, 0, 0, 0, 5}, {0, -1, 0, 0, 5}, {0, 2, 0, 0, 5},
            {0, 0, -1, 0, 5}, {0, 0, 3, 0, 5}, {0, 0, 0, -1, 5}, {0, 0, 0, 3, 5}, {0, 0, 0, 0, -1},
            {0, 0, 0, 0, 10000}, {0, Integer.MAX_VALUE, 0, 0, 5}, {0, 0, Integer.MIN_VALUE, 0, 5},
            {0, 0, 0, Integer.MAX_VALUE, 5}, {0, 0, 0, 0, Integer.MIN_VALUE}};
        for (int[] w : wrong) {
            check.due("edit " + w[0] + " " + w[1] + " " + w[2] + " " + w[3] + " " + w[4],
                    t.edit(w[0], w[1], w[2], w[3], w[4]), Look.INVALID);
        }
        check.due("locked", t.edit(0, 0, 0, 0, 5), Look.ILLEGAL);
        check.due("unchanged", Look.all(t), look);
        check.due("the last region", t.edit(0, 1, 2, 2, 5), 0);
    }

    private static void editRefusals() {
        GainTables t = new GainTables();
        check.due("the step", t.edit(0, 0, 0, 0, 101), Look.ILLEGAL);
        check.due("just the step", t.edit(0, 0, 0, 0, 100), 0);
        check.due("down over the step", t.edit(0, 0, 0, 0, 0), 100);
        t.setOperator(0, 1, 50);
        check.due("the budget", t.edit(0, 0, 0, 0, 51), Look.ILLEGAL);
        check.due("just the budget", t.edit(0, 0, 0, 0, 50), 0);
        check.due("no budget", t.edit(0, 0, 0, 0, 49), Look.ILLEGAL);
        check.due("no budget, no difference", t.edit(0, 0, 0, 0, 50), 50);
        check.due("budget", t.operator(0, 1), 0);
        t.lock(1, 0, 0, 1);
        check.due("locked, no difference", t.edit(0, 0, 0, 0, 50), Look.ILLEGAL);
        check.due("by who has the lock", t.edit(1, 0, 0, 0, 60), 50);
        check.due("edits", t.operator(0, 3), 4);
    }

    private static void scale() {
        GainTables t = Look.rich("x500 1;y500 1;g0 0 1 7;g0 1 1 10;g1 0 1 99;g1 1 1 9000;g1 1 0 50;");
        int history = t.count(9);
        check.due("half", t.scale(0, 1, 50), 4);
        check.due("7", t.region(0, 0, 1), 3);
        check.due("10", t.region(0, 1, 1), 5);
        check.due("99", t.region(1, 0, 1), 49);
        check.due("9000", t.region(1, 1, 1), 4500);
        check.due("other gain", t.region(1, 1, 0), 50);
        check.due("account", t.account(0), 3 + 5 + 49 + 4500 - 7 - 10 - 99 - 9000);
        check.due("budget", t.operator(0, 1), 99999 - 4 - 5 - 50 - 4500);
        check.due("edits", t.operator(0, 3), 4);
        check.due("one action", t.count(9), history + 1);
        check.due("ten times", t.scale(0, 1, 1000), 4);
        check.due("at most 9999", t.region(1, 1, 1), 9999);
        check.due("49", t.region(1, 0, 1), 490);
        check.due("nothing changes", t.scale(0, 1, 100), 4);
        check.due("to 0", t.scale(0, 1, 0), 4);
        check.due("gain", t.region(1, 1, 1), 0);
        check.due("sum", t.account(4), 50);
    }

    private static void scaleLeavesOutRefused() {
        GainTables t = Look.of("x500 1;y500 1;g0 0 0 60;g0 1 0 300;g1 0 0 50;g1 1 0 9;");
        t.lock(1, 0, 0, 1);
        t.setOperator(0, 1, 55);
        check.due("60 is locked, 300 is a step too far", t.scale(0, 0, 200), 1);
        check.due("locked", t.region(0, 0, 0), 60);
        check.due("too far", t.region(0, 1, 0), 300);
        check.due("edited by its turn", t.region(1, 0, 0), 100);
        check.due("no budget left for it", t.region(1, 1, 0), 9);
        check.due("budget", t.operator(0, 1), 5);
        check.due("by who has the lock", t.scale(1, 0, 200), 3);
        check.due("locked", t.region(0, 0, 0), 120);
        t.setOperator(2, 1, 0);
        int history = t.count(9);
        check.due("none", t.scale(2, 0, 0), 0);
        check.due("an action all the same", t.count(9), Math.min(history + 1, 5));
        GainTables order = Look.of("x500 1;y500 1;g0 0 0 9;g0 1 0 10;g1 0 0 10;g1 1 0 9;");
        order.setOperator(0, 1, 20);
        check.due("columns ahead of rows", order.scale(0, 0, 200), 2);
        check.due("first", order.region(0, 0, 0), 18);
        check.due("second", order.region(0, 1, 0), 20);
        check.due("third", order.region(1, 0, 0), 10);
        check.due("fourth", order.region(1, 1, 0), 9);
        order.setOperator(0, 1, 10);
        check.due("a later one fits", order.scale(0, 0, 200), 1);
        check.due("third", order.region(1, 0, 0), 20);
    }

    private static void scaleErrors() {
        GainTables t = Look.of("x500 1;y500 1;g0 0 0 60;");
        String look = Look.all(t);
        int[][] wrong = {{-1, 0, 50}, {3, 0, 50}, {0, -1, 50}, {0, 3, 50}, {0, 0, -1}, {0, 0, 1001},
            {Integer.MAX_VALUE, 0, 50}, {0, Integer.MIN_VALUE, 50}, {0, 0, Integer.MAX_VALUE}};
        for (int[] w : wrong) {
            check.due("scale " + w[0] + " " + w[1] + " " + w[2], t.scale(w[0], w[1], w[2]),
                    Look.INVALID);
        }
        check.due("unchanged", Look.all(t), look);
    }

    private static void lock() {
        GainTables t = Look.of("x500 1;y500 1;");
        check.due("take", t.lock(0, 0, 0, 1), 1);
        check.due("take", t.lock(0, 1, 1, 1), 2);
        check.due("take by another", t.lock(1, 1, 0, 1), 1);
        check.due("lock", t.region(0, 0, 3), 0);
        check.due("lock", t.region(1, 0, 3), 1);
        check.due("lock", t.region(0, 1, 3), Look.NONE);
        check.due("locks", t.operator(0, 2), 2);
        check.due("locks", t.operator(2, 2), 0);
        check.due("own again", t.lock(0, 0, 0, 1), Look.ILLEGAL);
        check.due("another's", t.lock(2, 0, 0, 1), Look.ILLEGAL);
        check.due("give back another's", t.lock(2, 0, 0, 0), Look.ILLEGAL);
        check.due("give back a free one", t.lock(0, 0, 1, 0), Look.ILLEGAL);
        check.due("give back", t.lock(0, 0, 0, 0), 1);
        check.due("give back again", t.lock(0, 0, 0, 0), Look.ILLEGAL);
        check.due("give back the last", t.lock(0, 1, 1, 0), 0);
        check.due("take what came free", t.lock(2, 0, 0, 1), 1);
        check.due("history", t.count(9), 5);
    }

    private static void lockErrors() {
        GainTables t = Look.of("x500 1;y500 1;");
        String look = Look.all(t);
        int[][] wrong = {{-1, 0, 0, 1}, {3, 0, 0, 1}, {0, -1, 0, 1}, {0, 2, 0, 1}, {0, 0, -1, 1},
            {0, 0, 2, 1}, {0, 0, 0, -1}, {0, 0, 0, 2}, {-2000000009, 0, 0, 0},
            {0, Integer.MAX_VALUE, 0, 0}, {0, 0, Integer.MIN_VALUE, 0}};
        for (int[] w : wrong) {
            check.due("lock " + w[0] + " " + w[1] + " " + w[2] + " " + w[3],
                    t.lock(w[0], w[1], w[2], w[3]), Look.INVALID);
        }
        check.due("not free", t.lock(0, 0, 0, 0), Look.ILLEGAL);
        check.due("unchanged", Look.all(t), look);
    }
}
