/** What can be seen of a table from outside, as a text, and short ways to set one up. */
final class Look {
    static final int INVALID = GainTables.INVALID_ARGUMENT;
    static final int ILLEGAL = GainTables.ILLEGAL_STATE;
    static final int FULL = GainTables.CAPACITY_EXCEEDED;
    static final int NONE = GainTables.NONE;
    static final int TEXT_ERROR = -2000001000;

    private Look() {
    }

    static boolean isError(int answer) {
        return answer == INVALID || answer == ILLEGAL || answer == FULL
                || answer <= TEXT_ERROR && answer >= TEXT_ERROR - 160;
    }

    static void write(GainTables table, String text) {
        for (int i = 0; i < text.length(); i++) {
            table.append(text.charAt(i));
        }
    }

    /** Empties the text, writes this one and loads it. */
    static int read(GainTables table, String text) {
        table.clearText();
        write(table, text);
        return table.load();
    }

    /** A table of the text, with nothing in its history but what load() put there. */
    static GainTables of(String text) {
        GainTables table = new GainTables();
        if (read(table, text) < 0) {
            throw new IllegalStateException("the test's own text is wrong: " + text);
        }
        return table;
    }

    /** An operator 0 whose step and budget are the greatest. */
    static GainTables rich(String text) {
        GainTables table = of(text);
        table.setOperator(0, 0, 9999);
        table.setOperator(0, 1, 99999);
        return table;
    }

    static String all(GainTables table) {
        StringBuilder look = new StringBuilder();
        look.append("count");
        for (int what = 0; what <= 11; what++) {
            look.append(' ').append(table.count(what));
        }
        for (int axis = 0; axis <= 1; axis++) {
            look.append("\naxis ").append(axis);
            for (int what = 0; what <= 5; what++) {
                look.append(' ').append(table.axis(axis, what));
            }
            for (int border = 0; border < table.axis(axis, 0); border++) {
                look.append(" (").append(table.border(axis, border, 0)).append(' ')
                        .append(table.border(axis, border, 1)).append(' ')
                        .append(table.border(axis, border, 2)).append(')');
            }
        }
        look.append("\nregions");
        for (int column = 0; column <= table.axis(0, 0); column++) {
            for (int row = 0; row <= table.axis(1, 0); row++) {
                look.append(" (").append(column).append(',').append(row).append(':');
                for (int what = 0; what <= 3; what++) {
                    look.append(' ').append(table.region(column, row, what));
                }
                look.append(')');
            }
        }
        look.append("\noperators");
        for (int operator = 0; operator <= 2; operator++) {
            for (int what = 0; what <= 3; what++) {
                look.append(' ').append(table.operator(operator, what));
            }
            look.append(',');
        }
        look.append("\naccounts");
        for (int account = 0; account <= 4; account++) {
            look.append(' ').append(table.account(account));
        }
        look.append("\ngains");
        for (int gain = 0; gain <= 2; gain++) {
            for (int what = 0; what <= 2; what++) {
                look.append(' ').append(table.gain(gain, what));
            }
        }
        look.append("\ntrail");
        for (int back = 0; back < table.count(6); back++) {
            look.append(" (");
            for (int what = 0; what <= 7; what++) {
                look.append(table.trail(back, what)).append(what < 7 ? " " : ")");
            }
        }
        return look.toString();
    }
}
