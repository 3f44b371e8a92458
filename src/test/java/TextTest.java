/** Promises 15 to 17: append, clearText, load. */
final class TextTest {
    private static final Check check = new Check("TextTest");

    public static void main(String[] args) {
        append();
        clearText();
        loadGood();
        loadCarriesOutInOrder();
        loadReplacesTheTable();
        loadErrors();
        loadErrorsOfNumbers();
        loadErrorsOfBorders();
        loadErrorChangesNothing();
        longTexts();
        everyCharacter();
        check.end();
    }

    private static void append() {
        GainTables t = new GainTables();
        for (int wrong : new int[] {0, -1, 256, Integer.MIN_VALUE, Integer.MAX_VALUE, 65536 + 120}) {
            check.due("append " + wrong, t.append(wrong), Look.INVALID);
        }
        check.due("least", t.append(1), 1);
        check.due("greatest", t.append(255), 2);
        for (int length = 3; length <= 160; length++) {
            check.due("append", t.append(' '), length);
        }
        check.due("full", t.append('x'), Look.FULL);
        check.due("full and wrong", t.append(0), Look.INVALID);
        check.due("full and wrong", t.append(256), Look.INVALID);
        check.due("length", t.count(10), 160);
        check.due("no action", t.count(9), 0);
    }

    private static void clearText() {
        GainTables t = new GainTables();
        check.due("empty", t.clearText(), 0);
        Look.write(t, "xyz");
        check.due("three", t.clearText(), 3);
        check.due("length", t.count(10), 0);
        check.due("empty again", t.clearText(), 0);
        check.due("no action", t.count(9), 0);
        Look.write(t, " ".repeat(160));
        check.due("full", t.clearText(), 160);
        check.due("room again", t.append('x'), 1);
    }

    private static void loadGood() {
        good("", 0);
        good(" ", 0);
        good("   ", 0);
        good("x500 10;", 1);
        good("x 500 10 ~ ;", 1);
        good("  x500 10~;  y1 1~;y999 1;  ", 3);
        good("y 500 0;g 0 1 2 9999;", 2);
        good("g0 0 0 0;", 1);
        good("g 0  0 0 0 ; g0 0 2 9999;", 2);
        good("x1 0;", 1);
        good("x999 0;", 1);
        good("x100 100~;x300 99;x900 100;", 3);
        good("x1 0;x2 0;x3 0;x4 0;x5 0;x6 0;y1 0;y2 0;y3 0;y4 0;y5 0;y6 0;g6 6 2 1;", 13);
        GainTables t = Look.of("x 500 10 ~ ; y1 0;");
        check.due("position", t.border(0, 0, 0), 500);
        check.due("kind", t.border(0, 0, 1), 1);
        check.due("reach", t.border(0, 0, 2), 10);
        check.due("position", t.border(1, 0, 0), 1);
        check.due("kind", t.border(1, 0, 1), 0);
        check.due("reach", t.border(1, 0, 2), 0);
        check.due("text is empty then", t.count(10), 0);
        check.due("an action", t.count(9), 1);
        check.due("load of the empty text", t.load(), 0);
        check.due("regions", t.count(0), 1);
    }

    private static void loadCarriesOutInOrder() {
        GainTables t = Look.of("g0 0 0 7;x500 10;g1 0 0 8;x300 10;g1 0 1 5;y400 1~;g2 1 2 3;");
        int[][] due = {{7, 7}, {7, 7}, {8, 8}};
        for (int column = 0; column < 3; column++) {
            for (int row = 0; row < 2; row++) {
                check.due("gain 0", t.region(column, row, 0), due[column][row]);
                check.due("gain 1", t.region(column, row, 1), column == 1 ? 5 : 0);
                check.due("gain 2", t.region(column, row, 2), column == 2 && row == 1 ? 3 : 0);
            }
        }
        check.due("account 3", t.account(3), 7 * 4 + 8 * 2 + 5 * 2 + 3);
        GainTables twice = Look.of("g0 0 0 7;g0 0 0 9;");
        check.due("the later one", twice.region(0, 0, 0), 9);
        check.due("account 3", twice.account(3), 9);
    }

    private static void loadReplacesTheTable() {
        GainTables t = Look.of("x400 50;y500 3;g1 1 0 90;");
        t.lock(2, 1, 1, 1);
        t.edit(0, 0, 0, 0, 25);
        t.setMargin(5);
        t.move(360, 9);
        t.move(354, 9);
        t.take(1);
        check.due("zone", t.count(4), 1);
        check.due("load", Look.read(t, "x400 50;g1 0 2 4;"), 2);
        check.due("borders", t.axis(1, 0), 0);
        check.due("gain", t.region(1, 0, 0), 0);
        check.due("gain", t.region(1, 0, 2), 4);
        check.due("locks", t.operator(2, 2), 0);
        check.due("zone anew", t.count(4), 0);
        check.due("account 0 stays", t.account(0), 25);
        check.due("account 3", t.account(3), 4 - 25);
        check.due("all", t.account(4), 4);
        check.due("edits stay", t.operator(0, 3), 1);
        check.due("budget stays", t.operator(0, 1), 975);
        check.due("margin stays", t.count(1), 5);
        check.due("point stays", t.count(2), 354);
        check.due("trail stays", t.count(6), 2);
        check.due("snapshot stays", t.count(11), 1);
        t.undo();
        check.due("undo", t.operator(2, 2), 1);
        check.due("undo does not bring back the text", t.count(10), 0);
    }

    private static void loadErrors() {
        bad("z", 0);
        bad("X500 1;", 0);
        bad(";", 0);
        bad("5", 0);
        bad("~", 0);
        bad("  q", 2);
        bad("x", 1);
        bad("x ", 2);
        bad("x;", 1);
        bad("x~500 1;", 1);
        bad("xx", 1);
        bad("x500", 4);
        bad("x500 ", 5);
        bad("x500;", 4);
        bad("x500~;", 4);
        bad("x500 1", 6);
        bad("x500 1 ", 7);
        bad("x500 1x", 6);
        bad("x500 1 2;", 7);
        bad("x500 1~", 7);
        bad("x500 1~~;", 7);
        bad("x500 1~1;", 7);
        bad("x500 1;;", 7);
        bad("x500 1;z", 7);
        bad("x500 1;y", 8);
        bad("x500-1;", 4);
        bad("x500,1;", 4);
        bad("x500\t1;", 4);
        bad("g0 0 0;", 6);
        bad("g0 0 0 0~;", 8);
        bad("g0 0 0 0 0;", 9);
        bad("g0 0 0 0", 8);
        bad("g", 1);
        bad("g0", 2);
        bad("gx", 1);
        bad("g-1 0 0 0;", 1);
        bad("x500 1;" + (char) 160, 7);
        bad("" + (char) 255, 0);
        bad("" + (char) 1, 0);
    }

    private static void loadErrorsOfNumbers() {
        bad("x0 1;", 1);
        bad("x1000 1;", 1);
        bad("x01 1;", 1);
        bad("x00 1;", 1);
        bad("x 0500 1;", 2);
        bad("x50012;", 1);
        bad("x500 101;", 5);
        bad("x500 00;", 5);
        bad("x500 01;", 5);
        bad("x500  010~", 6);
        bad("x1000", 1);
        bad("x0", 1);
        bad("x500 101", 5);
        bad("x1000 q", 1);
        bad("x0 0", 1);
        bad("g1 0 0 0;", 1);
        bad("g0 1 0 0;", 3);
        bad("g0 0 3 0;", 5);
        bad("g0 0 0 10000;", 7);
        bad("g0 0 0 00;", 7);
        bad("g00 0 0 0;", 1);
        bad("g 1 9 9 99999;", 2);
        bad("x500 1;g2 0 0 0;", 8);
        bad("x500 1;g0 1 0 0;", 10);
        bad("g1 0 0 0;x500 1;", 1);
        bad("x500 1;g1 0 0 1;y9 9;g1 2 0 1;", 24);
        bad("x4294967297 1;", 1);
        bad("x18446744073709551617 1;", 1);
        bad("x" + "9".repeat(159), 1);
        bad("x" + "0".repeat(159), 1);
        bad("x5 " + "1".repeat(157), 3);
        good("x500 100;", 1);
        good("x999 1;", 1);
    }

    private static void loadErrorsOfBorders() {
        bad("x500 0~;", 0);
        bad("x500 0~", 7);
        bad("x500 0~ q", 8);
        bad("x50 51;", 0);
        bad("x50 51", 6);
        bad("x951 50;", 0);
        bad("  x50 51 ;", 2);
        bad("x500 10;x520 10;", 8);
        good("x500 10;x521 10;", 2);
        good("x500 10;y520 10;", 2);
        bad("x500 10; x500 0;", 9);
        bad("x1 0;x2 0;x3 0;x4 0;x5 0;x6 0;x7 0;", 30);
        bad("y1 0;y2 0;y3 0;y4 0;y5 0;y6 0; y7 0;", 31);
        bad("x1 0;x2 0;x3 0;x4 0;x5 0;x6 0;x7 0", 34);
        good("x1 0;x2 0;x3 0;x4 0;x5 0;x6 0;y7 0;", 7);
        bad("x50 51;x", 0);
    }

    private static void loadErrorChangesNothing() {
        GainTables t = Look.of("x400 50;y500 3;g1 1 0 90;");
        Look.write(t, "y9 1;q");
        String look = Look.all(t);
        check.due("load", t.load(), Look.TEXT_ERROR - 5);
        check.due("unchanged", Look.all(t), look);
        check.due("load again", t.load(), Look.TEXT_ERROR - 5);
        check.due("the text is kept", t.clearText(), 6);
        Look.write(t, "y9");
        check.due("unfinished", t.load(), Look.TEXT_ERROR - 2);
        Look.write(t, " 1;");
        check.due("finished", t.load(), 1);
        check.due("border", t.border(1, 0, 0), 9);
    }

    private static void longTexts() {
        good("g0 0 0 1;".repeat(17) + "       ", 17);
        good("x5 0;" + " ".repeat(155), 1);
        bad("g0 0 0 1;".repeat(17) + "g0 0 0 ", 160);
        bad("g0 0 0 1;".repeat(17) + "g0 0 0;", 159);
        bad(" ".repeat(159) + "q", 159);
        bad(" ".repeat(159) + "x", 160);
        good(" ".repeat(160), 0);
    }

    /** Only these may begin an item or stand behind a reach. */
    private static void everyCharacter() {
        for (int c = 1; c <= 255; c++) {
            String first = "" + (char) c;
            if (c == ' ') {
                good(first, 0);
            } else {
                bad(first, c == 'x' || c == 'y' || c == 'g' ? 1 : 0);
            }
            String behind = "x500 1 " + (char) c;
            if (c == ';') {
                good(behind, 1);
            } else {
                bad(behind, c == ' ' || c == '~' ? 8 : 7);
            }
        }
    }

    private static void good(String text, int items) {
        GainTables t = new GainTables();
        Look.write(t, text);
        check.due("load of '" + text + "'", t.load(), items);
        check.due("length behind it", t.count(10), 0);
    }

    private static void bad(String text, int position) {
        GainTables t = new GainTables();
        Look.write(t, text);
        check.due("load of '" + text + "'", t.load(), Look.TEXT_ERROR - position);
        check.due("length behind it", t.count(10), text.length());
        check.due("history behind it", t.count(9), 0);
    }
}
