/** Reads a text for the Model, character by character, by the states that its grammar has. */
final class ModelText {
    private final String text;
    private Model.Table table = Model.Table.empty();
    private int position = -1;
    private int items = 0;

    // The item that is being read: its sign, its offset, the numbers that it has so far.
    private char sign = 0;
    private int start = 0;
    private final int[] numbers = new int[4];
    private int had = 0;
    private boolean tilde = false;

    ModelText(String text) {
        this.text = text;
    }

    int errorPosition() {
        return position;
    }

    int items() {
        return items;
    }

    /** The table, or null if there is an error. */
    Model.Table read() {
        int i = 0;
        while (i < text.length() && position < 0) {
            char c = text.charAt(i);
            if (c >= '0' && c <= '9') {
                int end = i;
                while (end < text.length() && text.charAt(end) >= '0' && text.charAt(end) <= '9') {
                    end++;
                }
                number(i, text.substring(i, end));
                i = end;
            } else {
                if (c != ' ') {
                    other(i, c);
                }
                i++;
            }
        }
        if (position < 0 && sign != 0) {
            position = text.length();
        }
        return position < 0 ? table : null;
    }

    private int wanted() {
        return sign == 'g' ? 4 : 2;
    }

    private void number(int at, String digits) {
        if (sign == 0 || had == wanted()) {
            position = at;
            return;
        }
        int columns = table.columns().size() - 1;
        int rows = table.columns().get(0).size() - 1;
        int least = sign != 'g' && had == 0 ? 1 : 0;
        int greatest = sign == 'g' ? new int[] {columns, rows, 2, 9999}[had]
                : new int[] {999, 100}[had];
        boolean good = digits.equals("0") || digits.charAt(0) != '0';
        java.math.BigInteger value = new java.math.BigInteger(digits);
        good = good && value.compareTo(java.math.BigInteger.valueOf(least)) >= 0
                && value.compareTo(java.math.BigInteger.valueOf(greatest)) <= 0;
        if (!good) {
            position = at;
            return;
        }
        numbers[had] = value.intValue();
        had++;
    }

    private void other(int at, char c) {
        if (sign == 0) {
            if (c == 'x' || c == 'y' || c == 'g') {
                sign = c;
                start = at;
                had = 0;
                tilde = false;
            } else {
                position = at;
            }
        } else if (c == '~' && sign != 'g' && had == 2 && !tilde) {
            tilde = true;
        } else if (c == ';' && had == wanted()) {
            carryOut();
            sign = 0;
        } else {
            position = at;
        }
    }

    private void carryOut() {
        if (sign == 'g') {
            table = table.withRegion(numbers[0], numbers[1],
                    table.at(numbers[0], numbers[1]).with(numbers[2], numbers[3]));
        } else {
            int axis = sign == 'x' ? 0 : 1;
            Model.Border border = new Model.Border(numbers[0], tilde ? 1 : 0, numbers[1]);
            if (table.against(axis, border, -1) != 0) {
                position = start;
                return;
            }
            table = table.withBorder(axis, border);
        }
        items++;
    }
}
