import java.util.Arrays;

/**
 * A gain scheduler of a controller. What it must do stands in ../shared/DOC.md as numbered
 * promises; which part of Java it keeps to stands in ../shared/LANGUAGE.md.
 */
public final class GainTables {
    public static final int INVALID_ARGUMENT = -2000000001;
    public static final int ILLEGAL_STATE = -2000000002;
    public static final int CAPACITY_EXCEEDED = -2000000003;
    public static final int NONE = -2000000009;

    private static final int TEXT_ERROR = -2000001000;
    private static final int LAST_COORDINATE = 1000;
    private static final int START_COORDINATE = 500;
    private static final int MAX_BORDERS = 6;
    private static final int MAX_STRIPS = MAX_BORDERS + 1;
    private static final int MAX_POSITION = 999;
    private static final int MAX_REACH = 100;
    private static final int STICKY = 0;
    private static final int BLENDING = 1;
    private static final int NO_BORDER = -1;
    private static final int GAINS = 3;
    private static final int MAX_GAIN = 9999;
    private static final int OPERATORS = 3;
    private static final int MAX_STEP = 9999;
    private static final int START_STEP = 100;
    private static final int MAX_BUDGET = 99999;
    private static final int START_BUDGET = 1000;
    private static final int MAX_PERCENT = 1000;
    private static final int TABLE_ACCOUNT = OPERATORS;
    private static final int ALL_ACCOUNTS = OPERATORS + 1;
    private static final int LOCKED_ELSEWHERE = 1;
    private static final int STEP_TOO_GREAT = 2;
    private static final int BUDGET_TOO_SMALL = 3;
    private static final int MAX_MARGIN = 50;
    private static final int TRAIL_ENTRIES = 20;
    private static final int ENTRY_PARTS = 8;
    private static final int FIRST_VALUE_PART = 4;
    private static final int JUMP_PART = 7;
    private static final int PLACES = 3;
    private static final int MAX_TEXT = 160;
    private static final int MAX_CHARACTER = 255;
    private static final int MAX_STATES = 5;
    private static final int MAX_AMPLITUDE = 500;
    private static final int MAX_TURNS = 100;

    private final State now;
    private final History history;
    private final Text text;
    // Rooms that calls use again and again, so that no call has to make an object.
    private final Table draft;
    private final Borders trial;
    private final Blend across;
    private final Blend along;
    private final int[] valuesAhead;
    private final int[] valuesBehind;

    public GainTables() {
        now = new State();
        history = new History();
        text = new Text();
        draft = new Table();
        trial = new Borders();
        across = new Blend();
        along = new Blend();
        valuesAhead = new int[GAINS];
        valuesBehind = new int[GAINS];
    }

    // ---- borders

    public int addBorder(int axis, int position, int kind, int reach) {
        if (!isAxis(axis) || !isIn(position, 1, MAX_POSITION) || !isIn(kind, STICKY, BLENDING)
                || !isReach(kind, reach) || !Borders.isInside(position, reach)) {
            return INVALID_ARGUMENT;
        }
        Borders borders = now.table.bordersOf(axis);
        if (!borders.isFree(position, reach, NO_BORDER)) {
            return ILLEGAL_STATE;
        }
        if (borders.isFull()) {
            return CAPACITY_EXCEEDED;
        }
        history.keep(now);
        int sumAhead = now.table.sumOfGains();
        int number = now.table.splitAt(axis, position, kind, reach);
        now.settleTable(sumAhead);
        return number;
    }

    public int removeBorder(int axis, int border) {
        if (!isBorder(axis, border)) {
            return INVALID_ARGUMENT;
        }
        history.keep(now);
        int sumAhead = now.table.sumOfGains();
        now.table.mergeAt(axis, border);
        now.settleTable(sumAhead);
        return now.table.bordersOf(axis).size;
    }

    public int setReach(int axis, int border, int reach) {
        if (!isBorder(axis, border)) {
            return INVALID_ARGUMENT;
        }
        Borders borders = now.table.bordersOf(axis);
        int position = borders.positionOf(border);
        if (!isReach(borders.kindOf(border), reach) || !Borders.isInside(position, reach)) {
            return INVALID_ARGUMENT;
        }
        if (!borders.isFree(position, reach, border)) {
            return ILLEGAL_STATE;
        }
        history.keep(now);
        int previous = borders.reachOf(border);
        borders.putReach(border, reach);
        now.findZones();
        return previous;
    }

    // ---- operators and gains

    public int setOperator(int operator, int what, int value) {
        if (!isOperator(operator) || !isIn(what, 0, 1)) {
            return INVALID_ARGUMENT;
        }
        if (what == 0 ? !isIn(value, 1, MAX_STEP) : !isIn(value, 0, MAX_BUDGET)) {
            return INVALID_ARGUMENT;
        }
        history.keep(now);
        int[] row = what == 0 ? now.steps : now.budgets;
        int previous = row[operator];
        row[operator] = value;
        return previous;
    }

    public int edit(int operator, int column, int row, int gain, int value) {
        if (!isEdit(operator, column, row, gain, value)) {
            return INVALID_ARGUMENT;
        }
        int region = Table.regionAt(column, row);
        if (now.reasonAgainst(operator, region, gain, value) != 0) {
            return ILLEGAL_STATE;
        }
        history.keep(now);
        int previous = now.table.gainAt(region, gain);
        now.carryOutEdit(operator, region, gain, value);
        return previous;
    }

    public int scale(int operator, int gain, int percent) {
        if (!isOperator(operator) || !isGain(gain) || !isIn(percent, 0, MAX_PERCENT)) {
            return INVALID_ARGUMENT;
        }
        history.keep(now);
        int edits = 0;
        for (int column = 0; column <= now.table.columns.size; column++) {
            for (int row = 0; row <= now.table.rows.size; row++) {
                int region = Table.regionAt(column, row);
                int value = Math.min(now.table.gainAt(region, gain) * percent / 100, MAX_GAIN);
                if (now.reasonAgainst(operator, region, gain, value) == 0) {
                    now.carryOutEdit(operator, region, gain, value);
                    edits++;
                }
            }
        }
        return edits;
    }

    public int lock(int operator, int column, int row, int locked) {
        if (!isOperator(operator) || !isRegion(column, row) || !isIn(locked, 0, 1)) {
            return INVALID_ARGUMENT;
        }
        int region = Table.regionAt(column, row);
        int needed = locked == 1 ? NONE : operator;
        if (now.table.lockAt(region) != needed) {
            return ILLEGAL_STATE;
        }
        history.keep(now);
        now.table.putLock(region, locked == 1 ? operator : NONE);
        return now.table.locksOf(operator);
    }

    // ---- moves

    public int setMargin(int margin) {
        if (!isIn(margin, 0, MAX_MARGIN)) {
            return INVALID_ARGUMENT;
        }
        history.keep(now);
        int previous = now.margin;
        now.margin = margin;
        return previous;
    }

    public int move(int x, int y) {
        if (!isCoordinate(x) || !isCoordinate(y)) {
            return INVALID_ARGUMENT;
        }
        history.keep(now);
        return carryOutMove(x, y);
    }

    public int sweep(int axis, int to, int step) {
        if (!isAxis(axis) || !isCoordinate(to) || !isIn(step, 1, LAST_COORDINATE)) {
            return INVALID_ARGUMENT;
        }
        int place = now.point[axis];
        if (place == to) {
            return ILLEGAL_STATE;
        }
        history.keep(now);
        int changes = 0;
        for (int moves = 0; moves < LAST_COORDINATE && place != to; moves++) {
            place = placeTowards(place, to, step);
            int zone = now.zones[axis];
            if (axis == 0) {
                carryOutMove(place, now.point[1]);
            } else {
                carryOutMove(now.point[0], place);
            }
            if (now.zones[axis] != zone) {
                changes++;
            }
        }
        return changes;
    }

    // ---- snapshots

    public int take(int place) {
        if (!isPlace(place)) {
            return INVALID_ARGUMENT;
        }
        history.keep(now);
        now.snapshotAt(place).copyFrom(now.table);
        now.taken[place] = true;
        return now.table.regions();
    }

    public int restore(int place) {
        if (!isPlace(place)) {
            return INVALID_ARGUMENT;
        }
        if (!now.taken[place]) {
            return ILLEGAL_STATE;
        }
        history.keep(now);
        now.replaceTable(now.snapshotAt(place));
        return now.table.regions();
    }

    public int undo() {
        if (history.size == 0) {
            return ILLEGAL_STATE;
        }
        history.bringBack(now);
        return history.size;
    }

    // ---- text

    public int append(int character) {
        if (!isIn(character, 1, MAX_CHARACTER)) {
            return INVALID_ARGUMENT;
        }
        if (text.length >= MAX_TEXT) {
            return CAPACITY_EXCEEDED;
        }
        text.put((char) character);
        return text.length;
    }

    public int clearText() {
        int previous = text.length;
        text.length = 0;
        return previous;
    }

    public int load() {
        int items = text.readInto(draft);
        if (text.error != Text.NO_ERROR) {
            return TEXT_ERROR - text.error;
        }
        history.keep(now);
        now.replaceTable(draft);
        text.length = 0;
        return items;
    }

    // ---- looking

    public int count(int what) {
        switch (what) {
            case 0: return now.table.regions();
            case 1: return now.margin;
            case 2: return now.point[0];
            case 3: return now.point[1];
            case 4: return now.zones[0];
            case 5: return now.zones[1];
            case 6: return now.path.size;
            case 7: return now.ignoredMoves;
            case 8: return now.carriedOutMoves;
            case 9: return history.size;
            case 10: return text.length;
            case 11: return now.placesTaken();
            default: return INVALID_ARGUMENT;
        }
    }

    public int axis(int axis, int what) {
        if (!isAxis(axis)) {
            return INVALID_ARGUMENT;
        }
        blendAtPoint();
        Blend blend = axis == 0 ? across : along;
        switch (what) {
            case 0: return now.table.bordersOf(axis).size;
            case 1: return now.table.bordersOf(axis).zones();
            case 2: return blend.low;
            case 3: return blend.high;
            case 4: return blend.numerator;
            case 5: return blend.denominator;
            default: return INVALID_ARGUMENT;
        }
    }

    public int border(int axis, int border, int what) {
        if (!isAxis(axis) || border < 0 || !isIn(what, 0, 2)) {
            return INVALID_ARGUMENT;
        }
        Borders borders = now.table.bordersOf(axis);
        if (!borders.has(border)) {
            return NONE;
        }
        switch (what) {
            case 0: return borders.positionOf(border);
            case 1: return borders.kindOf(border);
            default: return borders.reachOf(border);
        }
    }

    public int region(int column, int row, int what) {
        if (!isRegion(column, row) || !isIn(what, 0, GAINS)) {
            return INVALID_ARGUMENT;
        }
        int region = Table.regionAt(column, row);
        return what < GAINS ? now.table.gainAt(region, what) : now.table.lockAt(region);
    }

    public int operator(int operator, int what) {
        if (!isOperator(operator)) {
            return INVALID_ARGUMENT;
        }
        switch (what) {
            case 0: return now.steps[operator];
            case 1: return now.budgets[operator];
            case 2: return now.table.locksOf(operator);
            case 3: return now.edits[operator];
            default: return INVALID_ARGUMENT;
        }
    }

    public int account(int account) {
        if (!isIn(account, 0, ALL_ACCOUNTS)) {
            return INVALID_ARGUMENT;
        }
        return account == ALL_ACCOUNTS ? now.sumOfAccounts() : now.accounts[account];
    }

    public int gain(int gain, int what) {
        if (!isGain(gain)) {
            return INVALID_ARGUMENT;
        }
        blendAtPoint();
        switch (what) {
            case 0: return blendedValue(gain);
            case 1: return now.table.numerator(across, along, gain);
            case 2: return across.denominator * along.denominator;
            default: return INVALID_ARGUMENT;
        }
    }

    public int trail(int back, int what) {
        if (back < 0 || !isIn(what, 0, ENTRY_PARTS - 1)) {
            return INVALID_ARGUMENT;
        }
        return back < now.path.size ? now.path.partOf(back, what) : NONE;
    }

    // ---- questions, which change nothing

    public int refusal(int operator, int column, int row, int gain, int value) {
        if (!isEdit(operator, column, row, gain, value)) {
            return INVALID_ARGUMENT;
        }
        return now.reasonAgainst(operator, Table.regionAt(column, row), gain, value);
    }

    public int effect(int x, int y) {
        if (!isCoordinate(x) || !isCoordinate(y)) {
            return INVALID_ARGUMENT;
        }
        if (now.ignores(x, y)) {
            return 0;
        }
        int columnZone = now.table.columns.zoneAfter(now.zones[0], x);
        int rowZone = now.table.rows.zoneAfter(now.zones[1], y);
        blendAtPoint();
        noteValues(valuesAhead);
        across.findIn(now.table.columns, columnZone, x);
        along.findIn(now.table.rows, rowZone, y);
        noteValues(valuesBehind);
        return 1 + (columnZone != now.zones[0] ? 2 : 0) + (rowZone != now.zones[1] ? 4 : 0)
                + (greatestDifference() != 0 ? 8 : 0);
    }

    public int valueAt(int x, int y, int gain) {
        if (!isCoordinate(x) || !isCoordinate(y) || !isGain(gain)) {
            return INVALID_ARGUMENT;
        }
        across.findByPosition(now.table.columns, x);
        along.findByPosition(now.table.rows, y);
        return blendedValue(gain);
    }

    public int chatter(int axis, int center, int amplitude, int turns) {
        if (!isAxis(axis) || !isCoordinate(center) || !isSwing(center, amplitude)
                || !isIn(turns, 1, MAX_TURNS)) {
            return INVALID_ARGUMENT;
        }
        Borders borders = now.table.bordersOf(axis);
        return borders.zoneChanges(now.zones[axis], center, amplitude, turns);
    }

    public int calmReach(int axis, int border, int amplitude) {
        if (!isBorder(axis, border)) {
            return INVALID_ARGUMENT;
        }
        Borders borders = now.table.bordersOf(axis);
        int position = borders.positionOf(border);
        if (!isSwing(position, amplitude)) {
            return INVALID_ARGUMENT;
        }
        if (borders.kindOf(border) != STICKY) {
            return ILLEGAL_STATE;
        }
        trial.copyFrom(borders);
        int zone = trial.zoneOf(now.point[axis]);
        for (int reach = 0; reach <= MAX_REACH; reach++) {
            if (Borders.isInside(position, reach) && trial.isFree(position, reach, border)) {
                trial.putReach(border, reach);
                if (trial.zoneChanges(zone, position, amplitude, MAX_TURNS) <= 1) {
                    return reach;
                }
            }
        }
        return NONE;
    }

    public int steepest(int axis, int gain, int what) {
        if (!isAxis(axis) || !isGain(gain) || !isIn(what, 0, 1)) {
            return INVALID_ARGUMENT;
        }
        Borders borders = now.table.bordersOf(axis);
        Blend blend = axis == 0 ? across : along;
        across.findByPosition(now.table.columns, axis == 0 ? 0 : now.point[0]);
        along.findByPosition(now.table.rows, axis == 0 ? now.point[1] : 0);
        int value = blendedValue(gain);
        int greatest = 0;
        int place = 0;
        for (int lower = 0; lower < LAST_COORDINATE; lower++) {
            blend.findByPosition(borders, lower + 1);
            int next = blendedValue(gain);
            if (Math.abs(next - value) > greatest) {
                greatest = Math.abs(next - value);
                place = lower;
            }
            value = next;
        }
        return what == 0 ? greatest : place;
    }

    // ---- what the public methods share

    private static boolean isIn(int number, int least, int greatest) {
        return number >= least && number <= greatest;
    }

    private static boolean isAxis(int axis) {
        return isIn(axis, 0, 1);
    }

    private static boolean isCoordinate(int coordinate) {
        return isIn(coordinate, 0, LAST_COORDINATE);
    }

    private static boolean isGain(int gain) {
        return isIn(gain, 0, GAINS - 1);
    }

    private static boolean isOperator(int operator) {
        return isIn(operator, 0, OPERATORS - 1);
    }

    private static boolean isPlace(int place) {
        return isIn(place, 0, PLACES - 1);
    }

    private static boolean isReach(int kind, int reach) {
        return isIn(reach, kind == BLENDING ? 1 : 0, MAX_REACH);
    }

    private static boolean isSwing(int center, int amplitude) {
        return isIn(amplitude, 0, MAX_AMPLITUDE) && isCoordinate(center - amplitude)
                && isCoordinate(center + amplitude);
    }

    private boolean isBorder(int axis, int border) {
        return isAxis(axis) && now.table.bordersOf(axis).has(border);
    }

    private boolean isRegion(int column, int row) {
        return isIn(column, 0, now.table.columns.size) && isIn(row, 0, now.table.rows.size);
    }

    private boolean isEdit(int operator, int column, int row, int gain, int value) {
        return isOperator(operator) && isRegion(column, row) && isGain(gain)
                && isIn(value, 0, MAX_GAIN);
    }

    private static int placeTowards(int place, int to, int step) {
        return place < to ? Math.min(place + step, to) : Math.max(place - step, to);
    }

    private int carryOutMove(int x, int y) {
        if (now.ignores(x, y)) {
            now.ignoredMoves++;
            return NONE;
        }
        blendAtPoint();
        noteValues(valuesAhead);
        now.putPoint(x, y);
        blendAtPoint();
        noteValues(valuesBehind);
        int jump = greatestDifference();
        now.noteEntry(valuesBehind, jump);
        now.carriedOutMoves++;
        return jump;
    }

    private void blendAtPoint() {
        across.findIn(now.table.columns, now.zones[0], now.point[0]);
        along.findIn(now.table.rows, now.zones[1], now.point[1]);
    }

    private int blendedValue(int gain) {
        int denominator = across.denominator * along.denominator;
        return denominator > 0 ? now.table.numerator(across, along, gain) / denominator : 0;
    }

    private void noteValues(int[] values) {
        for (int gain = 0; gain < values.length; gain++) {
            values[gain] = blendedValue(gain);
        }
    }

    private int greatestDifference() {
        int greatest = 0;
        for (int gain = 0; gain < GAINS; gain++) {
            greatest = Math.max(greatest, Math.abs(valuesBehind[gain] - valuesAhead[gain]));
        }
        return greatest;
    }

    /** The borders of one axis, by ascending positions. */
    private static final class Borders {
        int size;
        final int[] positions = new int[MAX_BORDERS];
        final int[] kinds = new int[MAX_BORDERS];
        final int[] reaches = new int[MAX_BORDERS];

        void copyFrom(Borders other) {
            size = other.size;
            System.arraycopy(other.positions, 0, positions, 0, MAX_BORDERS);
            System.arraycopy(other.kinds, 0, kinds, 0, MAX_BORDERS);
            System.arraycopy(other.reaches, 0, reaches, 0, MAX_BORDERS);
        }

        boolean has(int border) {
            return border >= 0 && border < size;
        }

        boolean isFull() {
            return size >= MAX_BORDERS;
        }

        int positionOf(int border) {
            return has(border) ? positions[border] : 0;
        }

        int kindOf(int border) {
            return has(border) ? kinds[border] : STICKY;
        }

        int reachOf(int border) {
            return has(border) ? reaches[border] : 0;
        }

        void putReach(int border, int reach) {
            if (has(border)) {
                reaches[border] = reach;
            }
        }

        static boolean isInside(int position, int reach) {
            return position - reach >= 0 && position + reach <= LAST_COORDINATE;
        }

        /** Whether no border but the excepted one occupies a coordinate of this stretch. */
        boolean isFree(int position, int reach, int excepted) {
            for (int border = 0; border < size; border++) {
                if (border != excepted && position - reach <= positions[border] + reaches[border]
                        && position + reach >= positions[border] - reaches[border]) {
                    return false;
                }
            }
            return true;
        }

        int stripOf(int coordinate) {
            int strip = 0;
            for (int border = 0; border < size; border++) {
                if (positions[border] <= coordinate) {
                    strip++;
                }
            }
            return strip;
        }

        int zones() {
            return zoneOf(LAST_COORDINATE) + 1;
        }

        int zoneOf(int coordinate) {
            int zone = 0;
            for (int border = 0; border < size; border++) {
                if (kinds[border] == STICKY && positions[border] <= coordinate) {
                    zone++;
                }
            }
            return zone;
        }

        /** The zone that is active when the point has moved to the coordinate. */
        int zoneAfter(int zone, int coordinate) {
            int active = zone;
            int sticky = 0;
            for (int border = 0; border < size; border++) {
                if (kinds[border] == STICKY) {
                    if (sticky == active && coordinate >= positions[border] + reaches[border]) {
                        active++;
                    }
                    sticky++;
                }
            }
            for (int border = size - 1; border >= 0; border--) {
                if (kinds[border] == STICKY) {
                    if (sticky == active && coordinate < positions[border] - reaches[border]) {
                        active--;
                    }
                    sticky--;
                }
            }
            return active;
        }

        /** The coordinate, or the nearest one to it between the positions at the zone's ends. */
        int heldIn(int zone, int coordinate) {
            int held = coordinate;
            int sticky = 0;
            for (int border = 0; border < size; border++) {
                if (kinds[border] == STICKY) {
                    if (sticky == zone - 1) {
                        held = Math.max(held, positions[border]);
                    } else if (sticky == zone) {
                        held = Math.min(held, positions[border] - 1);
                    }
                    sticky++;
                }
            }
            return held;
        }

        int blendingAt(int coordinate) {
            for (int border = 0; border < size; border++) {
                if (kinds[border] == BLENDING
                        && coordinate >= positions[border] - reaches[border]
                        && coordinate <= positions[border] + reaches[border]) {
                    return border;
                }
            }
            return NO_BORDER;
        }

        int zoneChanges(int zone, int center, int amplitude, int turns) {
            int changes = 0;
            int active = zone;
            for (int turn = 0; turn < turns; turn++) {
                int place = turn % 2 == 0 ? center + amplitude : center - amplitude;
                int next = zoneAfter(active, place);
                if (next != active) {
                    changes++;
                }
                active = next;
            }
            return changes;
        }

        int insert(int position, int kind, int reach) {
            int number = stripOf(position);
            if (isFull()) {
                return number;
            }
            for (int border = size; border > number; border--) {
                copyBorder(border - 1, border);
            }
            positions[number] = position;
            kinds[number] = kind;
            reaches[number] = reach;
            size++;
            return number;
        }

        void delete(int border) {
            if (!has(border)) {
                return;
            }
            for (int upper = border + 1; upper < size; upper++) {
                copyBorder(upper, upper - 1);
            }
            size--;
        }

        private void copyBorder(int from, int to) {
            positions[to] = positions[from];
            kinds[to] = kinds[from];
            reaches[to] = reaches[from];
        }
    }

    /** The strips that an axis blends at a coordinate, and the weight of the high one. */
    private static final class Blend {
        int low;
        int high;
        int numerator;
        int denominator = 1;

        void findIn(Borders borders, int zone, int coordinate) {
            int held = borders.heldIn(zone, coordinate);
            int border = borders.blendingAt(held);
            if (border == NO_BORDER) {
                low = borders.stripOf(held);
                high = low;
                numerator = 0;
                denominator = 1;
            } else {
                int reach = borders.reachOf(border);
                low = border;
                high = border + 1;
                numerator = held - borders.positionOf(border) + reach;
                denominator = 2 * reach;
            }
        }

        void findByPosition(Borders borders, int coordinate) {
            findIn(borders, borders.zoneOf(coordinate), coordinate);
        }
    }

    /** Borders, gains and locks: what a snapshot keeps and a text describes. */
    private static final class Table {
        final Borders columns = new Borders();
        final Borders rows = new Borders();
        final int[] gains = new int[MAX_STRIPS * MAX_STRIPS * GAINS];
        final int[] locks = new int[MAX_STRIPS * MAX_STRIPS];

        Table() {
            Arrays.fill(locks, NONE);
        }

        void clear() {
            columns.size = 0;
            rows.size = 0;
            Arrays.fill(gains, 0);
            Arrays.fill(locks, NONE);
        }

        void copyFrom(Table other) {
            columns.copyFrom(other.columns);
            rows.copyFrom(other.rows);
            System.arraycopy(other.gains, 0, gains, 0, gains.length);
            System.arraycopy(other.locks, 0, locks, 0, locks.length);
        }

        Borders bordersOf(int axis) {
            return axis == 0 ? columns : rows;
        }

        int regions() {
            return (columns.size + 1) * (rows.size + 1);
        }

        static int regionAt(int column, int row) {
            return column * MAX_STRIPS + row;
        }

        int gainAt(int region, int gain) {
            int place = region * GAINS + gain;
            return place >= 0 && place < gains.length ? gains[place] : 0;
        }

        void putGain(int region, int gain, int value) {
            int place = region * GAINS + gain;
            if (place >= 0 && place < gains.length) {
                gains[place] = value;
            }
        }

        int lockAt(int region) {
            return region >= 0 && region < locks.length ? locks[region] : NONE;
        }

        void putLock(int region, int lock) {
            if (region >= 0 && region < locks.length) {
                locks[region] = lock;
            }
        }

        int locksOf(int operator) {
            int held = 0;
            for (int column = 0; column <= columns.size; column++) {
                for (int row = 0; row <= rows.size; row++) {
                    if (lockAt(regionAt(column, row)) == operator) {
                        held++;
                    }
                }
            }
            return held;
        }

        int sumOfGains() {
            int sum = 0;
            for (int column = 0; column <= columns.size; column++) {
                for (int row = 0; row <= rows.size; row++) {
                    for (int gain = 0; gain < GAINS; gain++) {
                        sum += gainAt(regionAt(column, row), gain);
                    }
                }
            }
            return sum;
        }

        /** The numerator of a gain; at most 200 * 200 * 9999, as the weights add up to 1. */
        int numerator(Blend across, Blend along, int gain) {
            int left = across.denominator - across.numerator;
            int below = along.denominator - along.numerator;
            return left * below * gainAt(regionAt(across.low, along.low), gain)
                    + across.numerator * below * gainAt(regionAt(across.high, along.low), gain)
                    + left * along.numerator * gainAt(regionAt(across.low, along.high), gain)
                    + across.numerator * along.numerator
                            * gainAt(regionAt(across.high, along.high), gain);
        }

        int splitAt(int axis, int position, int kind, int reach) {
            Borders borders = bordersOf(axis);
            int number = borders.insert(position, kind, reach);
            for (int strip = borders.size; strip > number; strip--) {
                copyStrip(axis, strip - 1, strip);
            }
            return number;
        }

        void mergeAt(int axis, int border) {
            Borders borders = bordersOf(axis);
            for (int strip = border + 2; strip <= borders.size; strip++) {
                copyStrip(axis, strip, strip - 1);
            }
            borders.delete(border);
        }

        private void copyStrip(int axis, int from, int to) {
            for (int other = 0; other < MAX_STRIPS; other++) {
                int source = axis == 0 ? regionAt(from, other) : regionAt(other, from);
                int target = axis == 0 ? regionAt(to, other) : regionAt(other, to);
                for (int gain = 0; gain < GAINS; gain++) {
                    putGain(target, gain, gainAt(source, gain));
                }
                putLock(target, lockAt(source));
            }
        }
    }

    /** The latest entries of the trail, in a ring. */
    private static final class Path {
        int size;
        int latest;
        final int[] parts = new int[TRAIL_ENTRIES * ENTRY_PARTS];

        void copyFrom(Path other) {
            size = other.size;
            latest = other.latest;
            System.arraycopy(other.parts, 0, parts, 0, parts.length);
        }

        void startEntry() {
            latest = (latest + 1) % TRAIL_ENTRIES;
            size = Math.min(size + 1, TRAIL_ENTRIES);
        }

        void putPart(int what, int value) {
            int place = latest * ENTRY_PARTS + what;
            if (place >= 0 && place < parts.length) {
                parts[place] = value;
            }
        }

        int partOf(int back, int what) {
            int place = Math.floorMod(latest - back, TRAIL_ENTRIES) * ENTRY_PARTS + what;
            return place >= 0 && place < parts.length ? parts[place] : NONE;
        }
    }

    /** All that undo() brings back: everything but the text and the history. */
    private static final class State {
        final Table table = new Table();
        final Table firstSnapshot = new Table();
        final Table secondSnapshot = new Table();
        final Table thirdSnapshot = new Table();
        final boolean[] taken = new boolean[PLACES];
        final int[] point = new int[2];
        final int[] zones = new int[2];
        int margin;
        final Path path = new Path();
        int ignoredMoves;
        int carriedOutMoves;
        final int[] steps = new int[OPERATORS];
        final int[] budgets = new int[OPERATORS];
        final int[] edits = new int[OPERATORS];
        final int[] accounts = new int[OPERATORS + 1];

        State() {
            Arrays.fill(point, START_COORDINATE);
            Arrays.fill(steps, START_STEP);
            Arrays.fill(budgets, START_BUDGET);
        }

        void copyFrom(State other) {
            table.copyFrom(other.table);
            firstSnapshot.copyFrom(other.firstSnapshot);
            secondSnapshot.copyFrom(other.secondSnapshot);
            thirdSnapshot.copyFrom(other.thirdSnapshot);
            for (int place = 0; place < PLACES; place++) {
                taken[place] = other.taken[place];
            }
            System.arraycopy(other.point, 0, point, 0, point.length);
            System.arraycopy(other.zones, 0, zones, 0, zones.length);
            margin = other.margin;
            path.copyFrom(other.path);
            ignoredMoves = other.ignoredMoves;
            carriedOutMoves = other.carriedOutMoves;
            System.arraycopy(other.steps, 0, steps, 0, OPERATORS);
            System.arraycopy(other.budgets, 0, budgets, 0, OPERATORS);
            System.arraycopy(other.edits, 0, edits, 0, OPERATORS);
            System.arraycopy(other.accounts, 0, accounts, 0, accounts.length);
        }

        Table snapshotAt(int place) {
            if (place == 0) {
                return firstSnapshot;
            }
            return place == 1 ? secondSnapshot : thirdSnapshot;
        }

        int placesTaken() {
            int places = 0;
            for (int place = 0; place < PLACES; place++) {
                if (taken[place]) {
                    places++;
                }
            }
            return places;
        }

        int sumOfAccounts() {
            int sum = 0;
            for (int account = 0; account < accounts.length; account++) {
                sum += accounts[account];
            }
            return sum;
        }

        void findZones() {
            zones[0] = table.columns.zoneOf(point[0]);
            zones[1] = table.rows.zoneOf(point[1]);
        }

        /** Puts in order what depends on the table, when its borders or all of it changed. */
        void settleTable(int sumAhead) {
            accounts[TABLE_ACCOUNT] += table.sumOfGains() - sumAhead;
            findZones();
        }

        void replaceTable(Table other) {
            int sumAhead = table.sumOfGains();
            table.copyFrom(other);
            settleTable(sumAhead);
        }

        boolean ignores(int x, int y) {
            return Math.abs(x - point[0]) < margin && Math.abs(y - point[1]) < margin;
        }

        void putPoint(int x, int y) {
            point[0] = x;
            point[1] = y;
            zones[0] = table.columns.zoneAfter(zones[0], x);
            zones[1] = table.rows.zoneAfter(zones[1], y);
        }

        void noteEntry(int[] values, int jump) {
            path.startEntry();
            path.putPart(0, point[0]);
            path.putPart(1, point[1]);
            path.putPart(2, zones[0]);
            path.putPart(3, zones[1]);
            for (int gain = 0; gain < values.length; gain++) {
                path.putPart(FIRST_VALUE_PART + gain, values[gain]);
            }
            path.putPart(JUMP_PART, jump);
        }

        int reasonAgainst(int operator, int region, int gain, int value) {
            int holder = table.lockAt(region);
            if (holder != NONE && holder != operator) {
                return LOCKED_ELSEWHERE;
            }
            int difference = Math.abs(value - table.gainAt(region, gain));
            if (difference > steps[operator]) {
                return STEP_TOO_GREAT;
            }
            return difference > budgets[operator] ? BUDGET_TOO_SMALL : 0;
        }

        void carryOutEdit(int operator, int region, int gain, int value) {
            int difference = value - table.gainAt(region, gain);
            table.putGain(region, gain, value);
            budgets[operator] -= Math.abs(difference);
            accounts[operator] += difference;
            edits[operator]++;
        }
    }

    /** The latest states ahead of actions, in a ring whose states are written over. */
    private static final class History {
        int size;
        private int first;
        private final State[] states = new State[MAX_STATES];

        History() {
            for (int place = 0; place < MAX_STATES; place++) {
                states[place] = new State();
            }
        }

        void keep(State state) {
            if (size >= MAX_STATES) {
                first = (first + 1) % MAX_STATES;
                size--;
            }
            State place = states[(first + size) % MAX_STATES];
            if (place != null) {
                place.copyFrom(state);
                size++;
            }
        }

        void bringBack(State target) {
            if (size <= 0) {
                return;
            }
            size--;
            State latest = states[(first + size) % MAX_STATES];
            if (latest != null) {
                target.copyFrom(latest);
            }
        }
    }

    /** The text, and the reading of it from left to right up to its first error. */
    private static final class Text {
        static final int NO_ERROR = -1;
        private static final int END = 0;

        int length;
        int error = NO_ERROR;
        private int next;
        private final char[] characters = new char[MAX_TEXT];

        void put(char character) {
            if (length < MAX_TEXT) {
                characters[length] = character;
                length++;
            }
        }

        /** Makes the table that of the text and answers the number of items, or sets error. */
        int readInto(Table table) {
            table.clear();
            next = 0;
            error = NO_ERROR;
            int items = 0;
            while (items < MAX_TEXT && error == NO_ERROR && peek() != END) {
                readItem(table);
                items++;
            }
            return items;
        }

        private void readItem(Table table) {
            int sign = peek();
            if (sign == 'x') {
                readBorder(table, 0);
            } else if (sign == 'y') {
                readBorder(table, 1);
            } else if (sign == 'g') {
                readGain(table);
            } else {
                error = next;
            }
        }

        private void readBorder(Table table, int axis) {
            int start = next;
            next++;
            int position = readNumber(1, MAX_POSITION);
            int reach = readNumber(0, MAX_REACH);
            int kind = STICKY;
            if (error == NO_ERROR && peek() == '~') {
                kind = BLENDING;
                next++;
            }
            readEndOfItem();
            if (error != NO_ERROR) {
                return;
            }
            Borders borders = table.bordersOf(axis);
            if (isReach(kind, reach) && Borders.isInside(position, reach)
                    && borders.isFree(position, reach, NO_BORDER) && !borders.isFull()) {
                table.splitAt(axis, position, kind, reach);
            } else {
                error = start;
            }
        }

        private void readGain(Table table) {
            next++;
            int column = readNumber(0, table.columns.size);
            int row = readNumber(0, table.rows.size);
            int gain = readNumber(0, GAINS - 1);
            int value = readNumber(0, MAX_GAIN);
            readEndOfItem();
            if (error == NO_ERROR) {
                table.putGain(Table.regionAt(column, row), gain, value);
            }
        }

        private int readNumber(int least, int greatest) {
            if (error != NO_ERROR) {
                return 0;
            }
            boolean zeroAhead = peek() == '0';
            int start = next;
            int number = 0;
            while (next < length && isDigit(characterAt(next))) {
                // Held far above every range, so that a long run of digits cannot wrap around.
                number = Math.min(number * 10 + characterAt(next) - '0', 1000000);
                next++;
            }
            int digits = next - start;
            if (digits == 0 || digits > 1 && zeroAhead || !isIn(number, least, greatest)) {
                error = start;
            }
            return number;
        }

        private void readEndOfItem() {
            if (error != NO_ERROR) {
                return;
            }
            if (peek() == ';') {
                next++;
            } else {
                error = next;
            }
        }

        /** Goes on over spaces and answers the character behind them, or END. */
        private int peek() {
            while (next < length && characterAt(next) == ' ') {
                next++;
            }
            return characterAt(next);
        }

        private int characterAt(int place) {
            return place >= 0 && place < length && place < MAX_TEXT ? characters[place] : END;
        }

        private static boolean isDigit(int character) {
            return character >= '0' && character <= '9';
        }
    }
}
