/** The terms of texts, and promises 15 to 17: append, clearText, load. */
final class TextSentences extends Sentences {
    private static GainTables good(String text, int items) {
        GainTables t = new GainTables();
        Look.write(t, text);
        due(t.load(), items);
        due(t.count(10), 0);
        due(t.count(9), 1);
        return t;
    }

    private static void bad(String text, int position) {
        GainTables t = Look.of("x400 50;g1 0 0 9;");
        Look.write(t, text);
        refuses(t, Look.TEXT_ERROR - position, "load");
        due(t.count(10), text.length());
    }

    static void aTextHas160CharactersAtMost() {
        terms("A table can be read from a text of at most 160 characters");
        GainTables t = new GainTables();
        Look.write(t, "g0 0 0 1;".repeat(17) + "      ");
        due(t.count(10), 159);
        due(t.append(' '), 160);
        due(t.append(' '), FULL);
        due(t.count(10), 160);
        due(t.load(), 17);
    }

    static void theCharacter160IsRead() {
        terms("A table can be read from a text of at most 160 characters");
        due(good("g0 0 0 1;".repeat(16) + "       " + "g0 0 2 5;", 17).region(0, 0, 2), 5);
        bad(" ".repeat(159) + "q", 159);
        bad(" ".repeat(159) + "g", 160);
        good(" ".repeat(160), 0);
    }

    static void aTextMayHaveNoItems() {
        terms(", a sequence of items (possibly none)");
        good("", 0);
        good(" ", 0);
        GainTables t = Look.of("x400 50;g1 0 0 9;");
        due(t.load(), 0);
        due(t.count(0), 1);
        due(t.account(4), 0);
    }

    static void eachItemEndsWithASemicolon() {
        terms(", each of which ends with \";\":");
        good("x5 1;", 1);
        good("x5 1;y5 1~;g0 0 0 7;", 3);
        bad("x5 1", 4);
        bad("x5 1y5 1;", 4);
        bad("g0 0 0 7", 8);
        bad("g0 0 0 7g0 0 0 8;", 8);
        bad(";", 0);
        bad("x5 1;;", 5);
    }

    static void xAndYAreBordersOfTheAxes() {
        terms("\"x\" POSITION REACH or \"y\" POSITION REACH a border of the axis 0 or 1, sticky");
        GainTables t = good("x1 0;y999 1;x900 100;y100 100;", 4);
        int[][] borders = {{0, 0, 1, 0}, {0, 1, 900, 100}, {1, 0, 100, 100}, {1, 1, 999, 1}};
        for (int[] b : borders) {
            due(t.border(b[0], b[1], 0), b[2]);
            due(t.border(b[0], b[1], 1), 0);
            due(t.border(b[0], b[1], 2), b[3]);
        }
        bad("X5 1;", 0);
        bad("z5 1;", 0);
        bad("xy5 1;", 1);
    }

    static void aTildeMakesABorderBlending() {
        terms("; with \"~\" behind it a blending one");
        GainTables t = good("x5 1~;y900 100~;y10 2;", 3);
        due(t.border(0, 0, 1), 1);
        due(t.border(1, 0, 1), 0);
        due(t.border(1, 1, 1), 1);
        due(t.border(1, 1, 2), 100);
        bad("x5 1~~;", 5);
        bad("~x5 1;", 0);
        bad("x~5 1;", 1);
        bad("x5~1;", 2);
        bad("g0 0 0 1~;", 8);
    }

    static void gIsAGain() {
        terms("\"g\" COLUMN ROW GAIN VALUE a gain");
        GainTables t = good("x5 1;y5 1;y9 1;g1 2 0 9999;g0 0 2 1;g1 0 1 30;", 6);
        due(t.region(1, 2, 0), 9999);
        due(t.region(0, 0, 2), 1);
        due(t.region(1, 0, 1), 30);
        due(t.account(4), 10030);
        bad("G0 0 0 0;", 0);
        bad("g0 0 0;", 6);
        bad("g0 0 0 0 0;", 9);
    }

    static void atTheBeginningThereAreNoBorders() {
        terms("At the beginning there are no borders");
        GainTables t = Look.of("x400 50;y1 0;y2 0;y3 0;y4 0;y5 0;y6 0;");
        due(Look.read(t, "x400 50;y6 0;"), 2);
        due(t.axis(0, 0), 1);
        due(t.axis(1, 0), 1);
        due(t.count(0), 4);
        due(Look.read(t, "g1 0 0 0;"), Look.TEXT_ERROR - 1);
    }

    static void atTheBeginningTheGainsAreZero() {
        terms(", and one region whose gains are 0");
        GainTables t = Look.of("x400 50;g0 0 0 1;g0 0 1 2;g0 0 2 3;g1 0 0 4;");
        due(Look.read(t, "x400 50;g1 0 1 7;"), 2);
        due(t.region(0, 0, 0) + t.region(0, 0, 1) + t.region(0, 0, 2), 0);
        due(t.region(1, 0, 0), 0);
        due(t.region(1, 0, 1), 7);
    }

    static void atTheBeginningThereIsNoLock() {
        terms(", without a lock");
        GainTables t = Look.of("x400 50;");
        t.lock(0, 0, 0, 1);
        t.lock(1, 1, 0, 1);
        due(Look.read(t, "x400 50;"), 1);
        due(t.region(0, 0, 3), NONE);
        due(t.region(1, 0, 3), NONE);
        due(t.operator(0, 2) + t.operator(1, 2), 0);
    }

    static void theTextOfAFailedLoadLeavesNothingBehind() {
        terms("At the beginning there are no borders");
        GainTables t = new GainTables();
        due(Look.read(t, "x400 50;y300 5;g1 1 1 9;q"), Look.TEXT_ERROR - 24);
        due(Look.read(t, "x400 50;"), 1);
        due(t.count(0), 2);
        due(t.account(4), 0);
    }

    static void itemsAreCarriedOutInTheirOrder() {
        terms("; then the items are carried out in their order.");
        GainTables t = good("g0 0 0 7;x500 10;g1 0 0 8;x300 10;g1 0 0 5;g0 0 1 1;g0 0 1 2;", 7);
        int[] gains = {7, 5, 8};
        for (int column = 0; column <= 2; column++) {
            due(t.region(column, 0, 0), gains[column]);
            due(t.region(column, 0, 1), column == 0 ? 2 : 0);
        }
        GainTables split = good("g0 0 2 9;y500 10;g0 1 2 6;y700 1~;", 4);
        due(split.region(0, 0, 2), 9);
        due(split.region(0, 1, 2), 6);
        due(split.region(0, 2, 2), 6);
    }

    static void numbersAreMaximalRunsOfDigits() {
        terms("The numbers are maximal runs of digits");
        good("x500 10;", 1);
        bad("x50010;", 1);
        bad("x500 1 0;", 7);
        bad("g0000;", 1);
        bad("g0 0 01;", 5);
        bad("x5", 2);
        due(good("x12 1;x345 6;", 2).border(0, 1, 0), 345);
    }

    static void numbersDoNotBeginWithZero() {
        terms(", which must not begin with 0 unless they are the single digit 0.");
        good("x500 0;g0 0 0 0;", 2);
        good("x10 10;y100 100;", 2);
        bad("x0500 1;", 1);
        bad("x500 01;", 5);
        bad("x500 00;", 5);
        bad("g00 0 0 0;", 1);
        bad("g0 00 0 0;", 3);
        bad("g0 0 00 0;", 5);
        bad("g0 0 0 07;", 7);
        bad("g0 0 0 00;", 7);
    }

    static void spacesMayStandEverywhere() {
        terms("Spaces (code 32) may stand everywhere");
        good(" x 500  10 ~ ;  g 1   0 0  7 ; ", 2);
        good("   x500 1;", 1);
        good("x500 1;   ", 1);
        int[] others = {9, 10, 13, 11, 12, 160, 1, 127, 255, 33, 31};
        for (int other : others) {
            bad((char) other + "x500 1;", 0);
            bad("x" + (char) other + "500 1;", 1);
            bad("x500" + (char) other + "1;", 4);
            bad("x500 1" + (char) other + ";", 6);
            bad("x500 1;" + (char) other, 7);
        }
    }

    static void spacesDoNotStandWithinNumbers() {
        terms(" except within numbers");
        bad("x5 10 1;", 6);
        bad("x5 00 1;", 3);
        bad("g0 0 0 1 2;", 9);
        bad("x500 1 0~;", 7);
    }

    static void spacesAreNeededBetweenNumbers() {
        terms("; they are needed only between two numbers.");
        good("x5 1~;y5 1;g0 0 0 1;g1 1 2 3;", 4);
        bad("x51;", 3);
        bad("g000;", 1);
        bad("g0 0 01;", 5);
    }

    static void theFirstErrorCounts() {
        terms("The text is read from left to right.");
        bad("x1000 101;", 1);
        bad("x500 101 q;", 5);
        bad("x1000", 1);
        bad("x1000 ~", 1);
        bad("g7 7 7 10000", 1);
        bad("q x", 0);
        bad("x50 51;q", 0);
        bad("x50 51q;", 6);
        bad("x500 0~;x0 0;", 0);
    }

    static void theErrorIsTheFirstCharacterThatIsNotAllowed() {
        terms("The error position is the offset (from 0) of the first character that is not allowed"
                + " where it stands");
        bad("q", 0);
        bad("5", 0);
        bad("   5", 3);
        bad("x;", 1);
        bad("x500;", 4);
        bad("x500~;", 4);
        bad("x500 ;", 5);
        bad("x500 1 2;", 7);
        bad("x500 1x", 6);
        bad("x500 1;x500-1;", 11);
        bad("g;", 1);
        bad("g0;", 2);
        bad("g0 0;", 4);
        bad("g0 0 0;", 6);
        bad("g0 0 0 x", 7);
        bad("gx", 1);
    }

    static void aNumberOutOfItsRangeIsToldByItsFirstDigit() {
        terms("; for a number that is out of its range");
        bad("x0 1;", 1);
        bad("x1000 1;", 1);
        bad("y  1000 1;", 3);
        bad("x500 101;", 5);
        bad("x500  999~;", 6);
        bad("g0 0 3 0;", 5);
        bad("g0 0 0 10000;", 7);
        bad("x500 1;g0 0 9 0;", 12);
        good("x1 0;x999 0;y100 100;g0 0 2 9999;g0 0 0 0;", 5);
    }

    static void aLongNumberDoesNotWrapAround() {
        terms("; for a number that is out of its range");
        bad("x4294967297 1;", 1);
        bad("x500 4294967297;", 5);
        bad("g4294967296 0 0 0;", 1);
        bad("g0 0 0 18446744073709551617;", 7);
        bad("x" + "9".repeat(159), 1);
        bad("x5 " + "1".repeat(157), 3);
        bad("x5 1" + "0".repeat(32) + ";", 3);
    }

    static void columnsAndRowsAreThoseOfThatTime() {
        terms(" (COLUMN and ROW by the strips that there are at that time)");
        bad("g1 0 0 0;", 1);
        bad("g0 1 0 0;", 3);
        bad("g1 0 0 0;x500 1;", 1);
        bad("x500 1;g2 0 0 0;", 8);
        bad("x500 1;g1 1 0 0;", 10);
        bad("y500 1;g1 0 0 0;", 8);
        good("x500 1;g1 0 0 0;", 1 + 1);
        good("y500 1;g0 1 0 0;", 1 + 1);
        good("x1 0;x2 0;x3 0;x4 0;x5 0;x6 0;g6 0 0 0;", 7);
        bad("x1 0;x2 0;x3 0;x4 0;x5 0;x6 0;g7 0 0 0;", 31);
    }

    static void aZeroAheadIsToldByItsFirstDigit() {
        terms(" or has a 0 ahead, its first digit");
        bad("x 01 1;", 2);
        bad("x500  00;", 6);
        bad("g 00 0 0 0;", 2);
        bad("x" + "0".repeat(159), 1);
        bad("x01000 1;", 1);
    }

    static void aFullAxisIsToldByItsLetter() {
        terms("; for a border that cannot be added (no room on the axis");
        bad("x1 0;x2 0;x3 0;x4 0;x5 0;x6 0; x7 0;", 31);
        bad("y1 0;y2 0;y3 0;y4 0;y5 0;y6 0;y999 1~;", 30);
        good("x1 0;x2 0;x3 0;x4 0;x5 0;x6 0;y7 0;", 7);
    }

    static void anOccupiedCoordinateIsToldByTheLetter() {
        terms(", or what it would occupy is occupied");
        bad("x500 10;x510 0;", 8);
        bad("x500 10;x489 1;", 8);
        bad("x500 10~; y500 10; x530 20~;", 19);
        good("x500 10;x511 0;x488 1;y500 10;", 4);
    }

    static void aCoordinateOutsideIsToldByTheLetter() {
        terms(", or outside), ");
        bad("x50 51;", 0);
        bad("y951 50~;", 0);
        bad("x5 1; y999 2;", 6);
        good("x50 50;y950 50~;", 2);
    }

    static void aBlendingBorderWithReachZeroIsToldByTheLetter() {
        terms("or a blending one with the reach 0, its \"x\" or \"y\"");
        bad("x500 0~;", 0);
        bad("g0 0 0 1; y500 0 ~ ;", 10);
        good("x500 0;y500 1~;", 2);
    }

    static void suchABorderIsFoundWhenItsSemicolonHasBeenRead() {
        terms(", found when its \";\" has been read.");
        bad("x500 0~", 7);
        bad("x500 0~q", 7);
        bad("x50 51", 6);
        bad("x50 51 x", 7);
        bad("x500 10;x510 0 5;", 15);
        bad("x1 0;x2 0;x3 0;x4 0;x5 0;x6 0;x7 0", 34);
        bad("x1 0;x2 0;x3 0;x4 0;x5 0;x6 0;x0 0;", 31);
    }

    static void aTextThatEndsTooSoonIsToldByItsLength() {
        terms("If the text ends where something is missing, it is the length of the text.");
        String[] texts = {"x500 10 ~ ;", "y500 1;", "g0 0 0 9;"};
        for (String text : texts) {
            for (int length = 1; length < text.length(); length++) {
                bad(text.substring(0, length), length);
            }
            good(text, 1);
        }
        bad("x5 1;y", 6);
        bad("g0 0 0 1;".repeat(17) + "g0 0 0 ", 160);
    }

    static void appendAppendsBehindTheText() {
        promise(15, "Appends a character to the text.");
        GainTables t = new GainTables();
        Look.write(t, "y7 1;");
        due(t.load(), 1);
        due(t.border(1, 0, 0), 7);
        Look.write(t, "x");
        Look.write(t, "56 2;");
        due(t.load(), 1);
        due(t.border(0, 0, 0), 56);
        due(t.border(0, 0, 2), 2);
    }

    static void appendTakesCharacterCodes() {
        promise(15, "`character`: character code, 1 to 255");
        range(GainTables::new, 0, 1, 255, "append", 65);
        for (int code = 1; code <= 255; code++) {
            GainTables t = new GainTables();
            due(t.append(code), 1);
            boolean begins = code == 'x' || code == 'y' || code == 'g';
            due(t.load(), code == ' ' ? 0 : Look.TEXT_ERROR - (begins ? 1 : 0));
        }
    }

    static void appendReturnsTheNewLength() {
        promise(15, "Returns the new length of the text");
        GainTables t = new GainTables();
        for (int length = 1; length <= 160; length++) {
            due(t.append('x'), length);
        }
        t.clearText();
        due(t.append('x'), 1);
    }

    static void appendRefusesWhatIsOutOfRange() {
        promise(15, "; INVALID_ARGUMENT if character is out of range");
        for (int code : new int[] {0, -1, 256, MIN, MAX, 65536 + 'x', 256 + ' '}) {
            refuses(new GainTables(), INVALID, "append", code);
        }
    }

    static void appendRefusesTheCharacter161() {
        promise(15, "; CAPACITY_EXCEEDED if the text already has 160 characters.");
        GainTables t = new GainTables();
        Look.write(t, " ".repeat(159));
        due(t.append('q'), 160);
        refuses(t, FULL, "append", 'x');
        refuses(t, FULL, "append", ' ');
        refuses(t, Look.TEXT_ERROR - 159, "load");
        refuses(t, FULL, "append", ';');
        t.clearText();
        due(t.append('x'), 1);
    }

    static void clearTextMakesTheTextEmpty() {
        promise(16, "Makes the text empty.");
        GainTables t = new GainTables();
        Look.write(t, "q".repeat(160));
        t.clearText();
        due(t.count(10), 0);
        due(t.load(), 0);
        Look.write(t, "x");
        t.clearText();
        Look.write(t, "y7 1;");
        due(t.load(), 1);
        due(t.axis(0, 0), 0);
        due(t.axis(1, 0), 1);
    }

    static void clearTextReturnsThePreviousLength() {
        promise(16, "Returns the previous length of the text.");
        GainTables t = new GainTables();
        due(t.clearText(), 0);
        for (int length : new int[] {1, 7, 159, 160}) {
            Look.write(t, " ".repeat(length));
            due(t.clearText(), length);
            due(t.clearText(), 0);
        }
    }

    static void loadMakesTheTableThatOfTheText() {
        promise(17, "Makes the table that of the text.");
        GainTables t = Look.of("x400 50;x600 7;y300 2;g0 0 0 5;g2 1 2 6;");
        t.lock(0, 1, 1, 1);
        due(Look.read(t, "y700 30~;g0 1 1 44;"), 2);
        due(t.axis(0, 0), 0);
        due(t.axis(1, 0), 1);
        due(t.border(1, 0, 0), 700);
        due(t.border(1, 0, 1), 1);
        due(t.border(1, 0, 2), 30);
        due(t.region(0, 1, 1), 44);
        due(t.account(4), 44);
        due(t.operator(0, 2), 0);
    }

    static void loadLeavesAllElse() {
        promise(17, "Makes the table that of the text.");
        GainTables t = Look.of("x400 50;");
        t.edit(1, 0, 0, 0, 25);
        t.setOperator(2, 0, 8);
        t.setMargin(6);
        t.take(2);
        t.move(9, 9);
        t.move(10, 10);
        due(Look.read(t, ""), 0);
        int[] counts = {1, 6, 9, 9, 0, 0, 1, 1, 1, 5, 0, 1};
        for (int what = 0; what <= 11; what++) {
            due(t.count(what), counts[what]);
        }
        due(t.operator(1, 1), 975);
        due(t.operator(1, 3), 1);
        due(t.account(1), 25);
        due(t.operator(2, 0), 8);
        due(t.trail(0, 4), 25);
        due(t.restore(2), 2);
    }

    static void theTextBecomesEmpty() {
        promise(17, "The text becomes empty.");
        GainTables t = new GainTables();
        Look.write(t, "x500 1;");
        due(t.load(), 1);
        due(t.count(10), 0);
        due(t.load(), 0);
        due(t.axis(0, 0), 0);
        Look.write(t, "x500 1;" + " ".repeat(153));
        due(t.load(), 1);
        due(t.append('q'), 1);
        due(t.load(), Look.TEXT_ERROR);
    }

    static void loadIsAnAction() {
        promise(17, "This is an action.");
        isAction(Look.of("x400 50;g1 0 0 9;"), "load");
        isAction(new GainTables(), "load");
        GainTables t = Look.of("x400 50;g1 0 0 9;");
        Look.write(t, "y9 9;g0 1 1 1;");
        isAction(t, "load");
    }

    static void loadReturnsTheNumberOfItems() {
        promise(17, "Returns the number of items");
        due(Look.read(new GainTables(), "x1 0;y2 0;g1 1 0 5;g0 0 0 0;y900 9~;"), 5);
        due(Look.read(new GainTables(), ""), 0);
        due(Look.read(new GainTables(), "  "), 0);
        due(Look.read(new GainTables(), "x1 0;"), 1);
        due(Look.read(new GainTables(), "g0 0 0 1;".repeat(17)), 17);
    }

    static void loadReturnsTheErrorPosition() {
        promise(17, "; -2000001000 minus the error position if the text has an error");
        due(Look.read(new GainTables(), "q"), -2000001000L);
        due(Look.read(new GainTables(), "x"), -2000001001L);
        due(Look.read(new GainTables(), "x500 1;x"), -2000001008L);
        due(Look.read(new GainTables(), " ".repeat(159) + "x"), -2000001160L);
    }

    static void aFailedLoadChangesNothing() {
        promise(17, " (then nothing changes, and the text is kept).");
        GainTables t = Look.of("x400 50;g1 0 0 9;");
        t.move(450, 0);
        t.move(390, 0);
        Look.write(t, "y9 1;g0 1 0 5;x400 50");
        refuses(t, Look.TEXT_ERROR - 21, "load");
        refuses(t, Look.TEXT_ERROR - 21, "load");
        due(t.count(4), 1);
        due(t.count(9), 3);
        due(t.append(';'), 22);
        due(t.load(), 3);
        due(t.axis(1, 0), 1);
        due(t.region(1, 1, 0), 5);
        due(t.count(4), 0);
    }
}
