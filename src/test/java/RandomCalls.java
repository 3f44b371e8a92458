/** Makes calls that go together, always the same ones for the same seed. */
final class RandomCalls {
    private static final int[] ODD = {-1, -2, 2, 3, 4, 6, 7, 12, 101, 501, 1000, 1001, 10000, 100000,
        Integer.MIN_VALUE, Integer.MAX_VALUE, Integer.MIN_VALUE + 1, Look.NONE, Look.INVALID};
    private long seed;
    private final boolean writesTexts;
    private int made = 0;
    private String pending = "";

    RandomCalls(long seed) {
        this.seed = seed * 0x9E3779B97F4A7C15L + 1;
        writesTexts = seed % 3 == 0;
    }

    int upTo(int greatest) {
        seed ^= seed << 13;
        seed ^= seed >>> 7;
        seed ^= seed << 17;
        return (int) Math.floorMod(seed >>> 11, (long) greatest + 1);
    }

    private int between(int least, int greatest) {
        return least + upTo(greatest - least);
    }

    private boolean onceIn(int times) {
        return upTo(times - 1) == 0;
    }

    /** The next call, looking at the table for arguments that mean something. */
    Call next(GainTables t) {
        made++;
        if (!pending.isEmpty()) {
            char c = pending.charAt(0);
            pending = pending.substring(1);
            return new Call("append", c);
        }
        Call call = sensible(t);
        if (call.arguments().length > 0 && onceIn(12)) {
            int[] arguments = call.arguments().clone();
            arguments[upTo(arguments.length - 1)] = ODD[upTo(ODD.length - 1)];
            return new Call(call.name(), arguments);
        }
        return call;
    }

    private Call sensible(GainTables t) {
        int axis = upTo(1);
        int border = upTo(Math.max(0, t.axis(axis, 0) - 1));
        int column = upTo(t.axis(0, 0));
        int row = upTo(t.axis(1, 0));
        int operator = upTo(2);
        int gain = upTo(2);
        if (!writesTexts && made < 40) {
            return beginning(t, column, row, gain);
        }
        switch (writesTexts ? upTo(37) : upTo(34)) {
            case 0: case 1: case 2: return addBorder(axis);
            case 3: return new Call("removeBorder", axis, border);
            case 4: case 5: return new Call("setReach", axis, border, reach());
            case 6: return setOperator(operator);
            case 7: case 8: case 9:
                return new Call("edit", operator, column, row, gain, value(t, column, row, gain));
            case 10: return new Call("scale", operator, gain, onceIn(2) ? upTo(1000) : upTo(210));
            case 11: case 12: return new Call("lock", operator, column, row, upTo(1));
            case 13: return new Call("setMargin", onceIn(2) ? 0 : upTo(50));
            case 14: case 15: case 16: case 17:
                return new Call("move", place(t, 0), place(t, 1));
            case 18: return new Call("sweep", axis, place(t, axis), between(1, onceIn(2) ? 60 : 1000));
            case 19: return new Call("take", upTo(2));
            case 20: return new Call("restore", upTo(2));
            case 21: return onceIn(2) ? new Call("undo") : new Call("count", upTo(11));
            case 22: return new Call("steepest", axis, gain, upTo(1));
            case 23: return new Call("trail", upTo(21), upTo(7));
            case 24: return new Call("border", axis, upTo(6), upTo(2));
            case 25: return new Call("refusal", operator, column, row, gain,
                    value(t, column, row, gain));
            case 26: case 27: return new Call("effect", place(t, 0), place(t, 1));
            case 28: case 29: return new Call("valueAt", place(t, 0), place(t, 1), gain);
            case 30: case 31: return chatter(t, axis);
            case 32: case 33: return calmReach(t, axis, border);
            case 34: return new Call("region", column, row, upTo(3));
            case 35: return new Call("append", between(1, 255));
            case 36: return text();
            default: return onceIn(3) ? new Call("clearText") : new Call("load");
        }
    }

    /** Borders and great gains, so that what follows has something to blend. */
    private Call beginning(GainTables t, int column, int row, int gain) {
        if (made == 1) {
            return new Call("setOperator", 0, 0, 9999);
        }
        if (made % 4 == 2) {
            return new Call("setOperator", 0, 1, 99999);
        }
        return made < 16 ? addBorder(upTo(1))
                : new Call("edit", 0, column, row, gain, upTo(9999));
    }

    private int reach() {
        return onceIn(4) ? upTo(100) : upTo(25);
    }

    private Call addBorder(int axis) {
        int position = onceIn(12) ? (onceIn(2) ? between(1, 5) : between(995, 999))
                : between(1, 999);
        return new Call("addBorder", axis, position, upTo(1), reach());
    }

    private Call setOperator(int operator) {
        if (onceIn(2)) {
            return new Call("setOperator", operator, 0, onceIn(3) ? between(1, 300) : 9999);
        }
        return new Call("setOperator", operator, 1, onceIn(3) ? upTo(3000) : upTo(99999));
    }

    private int value(GainTables t, int column, int row, int gain) {
        int now = t.region(column, row, gain);
        int value = onceIn(2) ? upTo(9999) : now + between(-150, 150);
        return Math.max(0, Math.min(9999, value));
    }

    /** Often near the edge of what a border occupies, or near the point. */
    private int place(GainTables t, int axis) {
        int borders = t.axis(axis, 0);
        int place = upTo(1000);
        if (borders > 0 && !onceIn(3)) {
            int border = upTo(borders - 1);
            int side = between(-1, 1);
            place = t.border(axis, border, 0) + side * t.border(axis, border, 2) + between(-1, 1);
        } else if (onceIn(2)) {
            place = t.count(2 + axis) + between(-50, 50);
        }
        return Math.max(0, Math.min(1000, place));
    }

    private Call chatter(GainTables t, int axis) {
        int center = place(t, axis);
        int room = Math.min(500, Math.min(center, 1000 - center));
        int amplitude = onceIn(2) ? upTo(room) : upTo(Math.min(room, 30));
        return new Call("chatter", axis, center, amplitude, between(1, onceIn(2) ? 100 : 5));
    }

    private Call calmReach(GainTables t, int axis, int border) {
        int amplitude = onceIn(3) ? upTo(500) : upTo(40);
        return new Call("calmReach", axis, border, amplitude);
    }

    /** Lets a text be appended, mostly a good one, and often with one character spoilt. */
    private Call text() {
        StringBuilder s = new StringBuilder();
        int items = upTo(12);
        int[] strips = {0, 0};
        for (int i = 0; i < items; i++) {
            space(s);
            if (onceIn(2)) {
                int axis = upTo(1);
                boolean blending = onceIn(2);
                s.append(axis == 0 ? 'x' : 'y');
                number(s, between(1, 999));
                s.append(' ');
                number(s, blending ? between(1, 12) : upTo(12));
                space(s);
                s.append(blending ? "~" : "");
                strips[axis]++;
            } else {
                s.append('g');
                number(s, upTo(strips[0]));
                s.append(' ');
                number(s, upTo(strips[1]));
                s.append(' ');
                number(s, upTo(2));
                s.append(' ');
                number(s, upTo(9999));
            }
            space(s);
            s.append(';');
        }
        if (s.length() > 0 && onceIn(2)) {
            spoil(s);
        }
        pending = s.toString();
        return new Call("clearText");
    }

    private void number(StringBuilder s, int number) {
        space(s);
        s.append(onceIn(60) ? "0" : "").append(number);
    }

    private void space(StringBuilder s) {
        s.append(onceIn(6) ? " " : "");
    }

    private void spoil(StringBuilder s) {
        int at = upTo(s.length() - 1);
        String signs = " ;~xyg0123456789;;  #";
        char sign = signs.charAt(upTo(signs.length() - 1));
        switch (upTo(3)) {
            case 0:
                s.setCharAt(at, sign);
                break;
            case 1:
                s.insert(at, sign);
                break;
            case 2:
                s.deleteCharAt(at);
                break;
            default:
                s.setLength(at);
                break;
        }
    }
}
