/** Promises 12 to 14: take, restore, undo. */
final class SnapshotsTest {
    private static final Check check = new Check("SnapshotsTest");

    public static void main(String[] args) {
        take();
        restore();
        restoreChangesNothingElse();
        errors();
        undo();
        undoOfEachAction();
        undoBringsBackZones();
        undoBringsBackSnapshots();
        undoBringsBackTheTrail();
        placesAreApart();
        check.end();
    }

    private static void take() {
        GainTables t = Look.of("x500 1;y500 1;");
        check.due("take", t.take(0), 4);
        check.due("places", t.count(11), 1);
        check.due("take", t.take(2), 4);
        check.due("take again", t.take(2), 4);
        check.due("places", t.count(11), 2);
        t.removeBorder(0, 0);
        check.due("take", t.take(1), 2);
        check.due("places", t.count(11), 3);
        check.due("in place of one that is there", t.take(0), 2);
        check.due("restore", t.restore(0), 2);
        check.due("restore", t.restore(2), 4);
        check.due("undo", t.undo() >= 0 ? 1 : 0, 1);
    }

    private static void restore() {
        GainTables t = Look.of("x400 50;x800 9~;y500 3;g2 1 0 70;g0 0 2 5;");
        t.lock(1, 2, 1, 1);
        t.take(1);
        check.due("other table", Look.read(t, "y100 4;g0 1 1 9;"), 2);
        check.due("account 3", t.account(3), 9);
        check.due("restore", t.restore(1), 6);
        check.due("border", t.border(0, 1, 0), 800);
        check.due("kind", t.border(0, 1, 1), 1);
        check.due("reach", t.border(0, 1, 2), 9);
        check.due("border", t.border(1, 0, 0), 500);
        check.due("gain", t.region(2, 1, 0), 70);
        check.due("gain", t.region(0, 0, 2), 5);
        check.due("lock", t.region(2, 1, 3), 1);
        check.due("account 3", t.account(3), 75);
        check.due("it stays", t.restore(1), 6);
        t.setOperator(0, 0, 9999);
        t.edit(0, 0, 0, 0, 600);
        check.due("edits are not in the snapshot", t.restore(1), 6);
        check.due("gain", t.region(0, 0, 0), 0);
        check.due("account 0", t.account(0), 600);
        check.due("account 3", t.account(3), -525);
        check.due("all", t.account(4), 75);
    }

    private static void restoreChangesNothingElse() {
        GainTables t = Look.of("x400 50;");
        t.take(0);
        t.setMargin(3);
        t.setOperator(1, 0, 77);
        t.edit(1, 1, 0, 0, 70);
        t.move(390, 9);
        t.move(360, 9);
        check.due("zone", t.count(4), 1);
        check.due("restore", t.restore(0), 2);
        check.due("margin", t.count(1), 3);
        check.due("x", t.count(2), 360);
        check.due("zone anew", t.count(4), 0);
        check.due("trail", t.count(6), 2);
        check.due("step", t.operator(1, 0), 77);
        check.due("budget", t.operator(1, 1), 930);
        check.due("edits", t.operator(1, 3), 1);
        check.due("account", t.account(1), 70);
        check.due("account 3", t.account(3), -70);
        check.due("places", t.count(11), 1);
    }

    private static void errors() {
        GainTables t = Look.of("x500 1;y500 1;");
        t.take(1);
        String look = Look.all(t);
        for (int wrong : new int[] {-1, 3, Integer.MIN_VALUE, Integer.MAX_VALUE}) {
            check.due("take " + wrong, t.take(wrong), Look.INVALID);
            check.due("restore " + wrong, t.restore(wrong), Look.INVALID);
        }
        check.due("empty", t.restore(0), Look.ILLEGAL);
        check.due("empty", t.restore(2), Look.ILLEGAL);
        check.due("unchanged", Look.all(t), look);
        t.undo();
        check.due("undo makes the place empty", t.restore(1), Look.ILLEGAL);
    }

    private static void undo() {
        GainTables t = new GainTables();
        check.due("empty", t.undo(), Look.ILLEGAL);
        String[] looks = new String[7];
        for (int i = 0; i < 7; i++) {
            looks[i] = withoutHistory(t);
            t.move(i, i);
        }
        check.due("history", t.count(9), 5);
        t.append('x');
        for (int i = 6; i >= 2; i--) {
            check.due("left", t.undo(), i - 2);
            t.clearText();
            check.due("state " + i, withoutHistory(t), looks[i]);
        }
        check.due("empty", t.undo(), Look.ILLEGAL);
        check.due("two moves stay", t.count(8), 2);
        t.append('x');
        t.setMargin(4);
        check.due("left", t.undo(), 0);
        check.due("the text stays", t.count(10), 1);
        t.setMargin(4);
        t.setMargin(5);
        check.due("left", t.undo(), 1);
        t.setMargin(6);
        check.due("left", t.undo(), 1);
        check.due("margin", t.count(1), 4);
        check.due("left", t.undo(), 0);
        check.due("margin", t.count(1), 0);
    }

    private static String withoutHistory(GainTables t) {
        String look = Look.all(t);
        String[] lines = look.split("\n", 2);
        String[] numbers = lines[0].split(" ");
        numbers[10] = "-";
        return String.join(" ", numbers) + "\n" + lines[1];
    }

    /** What each action changes comes back, and questions and the text are no actions. */
    private static void undoOfEachAction() {
        for (int action = 0; action < 13; action++) {
            GainTables t = Look.of("x400 50;y500 100~;g0 0 0 40;g1 1 0 90;g1 0 1 70;");
            t.move(440, 420);
            t.lock(1, 1, 1, 1);
            t.take(0);
            t.edit(0, 0, 0, 1, 50);
            String look = withoutHistory(t);
            int answer = act(t, action);
            check.holds("action " + action + " answers " + answer, !Look.isError(answer));
            check.due("history of action " + action, t.count(9), 5);
            check.holds("action " + action + " changes", !withoutHistory(t).equals(look));
            check.due("undo of action " + action, t.undo(), 4);
            check.due("state of action " + action, withoutHistory(t), look);
        }
        GainTables t = new GainTables();
        t.append('x');
        t.clearText();
        t.load();
        check.due("load is an action", t.count(9), 1);
        t.append('x');
        t.clearText();
        t.valueAt(1, 1, 1);
        t.chatter(0, 500, 1, 1);
        t.undo();
        check.due("the others are none", t.count(9), 0);
    }

    private static int act(GainTables t, int action) {
        switch (action) {
            case 0: return t.addBorder(0, 900, 0, 1);
            case 1: return t.removeBorder(0, 0);
            case 2: return t.setReach(0, 0, 1);
            case 3: return t.setOperator(2, 0, 5);
            case 4: return t.edit(0, 0, 1, 2, 50);
            case 5: return t.scale(0, 1, 10);
            case 6: return t.lock(0, 0, 0, 1);
            case 7: return t.setMargin(9);
            case 8: return t.move(0, 0);
            case 9: return t.sweep(1, 700, 30);
            case 10: return t.take(1);
            case 11: return t.restore(0);
            default:
                Look.write(t, "y7 1;");
                return t.load();
        }
    }

    private static void undoBringsBackZones() {
        GainTables t = Look.of("x400 50;");
        t.move(360, 500);
        check.due("zone", t.count(4), 1);
        t.addBorder(1, 100, 0, 0);
        check.due("found anew", t.count(4), 0);
        t.undo();
        check.due("brought back, not found anew", t.count(4), 1);
    }

    private static void undoBringsBackSnapshots() {
        for (int place = 0; place <= 2; place++) {
            GainTables t = Look.of("x400 50;x800 5;");
            t.take(place);
            Look.read(t, "y400 50;");
            t.take(place);
            check.due("undo the second take", t.undo(), 3);
            check.due("the first snapshot is there", t.restore(place), 3);
            t.undo();
            t.undo();
            check.due("undo the first take", t.undo(), 1);
            check.due("places", t.count(11), 0);
            check.due("no snapshot", t.restore(place), Look.ILLEGAL);
        }
    }

    private static void undoBringsBackTheTrail() {
        GainTables t = new GainTables();
        t.setMargin(2);
        for (int i = 0; i < 20; i++) {
            t.move(10 * i, 7);
        }
        t.move(1000, 7);
        t.move(999, 7);
        check.due("the oldest went", t.trail(19, 0), 10);
        check.due("ignored", t.count(7), 1);
        t.undo();
        check.due("ignored", t.count(7), 0);
        check.due("moves", t.count(8), 21);
        t.undo();
        check.due("moves", t.count(8), 20);
        for (int back = 0; back < 20; back++) {
            check.due("the trail is back", t.trail(back, 0), 190 - 10 * back);
        }
    }

    private static void placesAreApart() {
        GainTables t = new GainTables();
        t.addBorder(0, 100, 0, 0);
        t.take(0);
        t.addBorder(0, 200, 0, 0);
        t.take(1);
        t.addBorder(0, 300, 0, 0);
        t.take(2);
        for (int place = 0; place <= 2; place++) {
            check.due("place " + place, t.restore(place), place + 2);
            check.due("borders", t.axis(0, 0), place + 1);
        }
    }
}
