import java.util.ArrayDeque;
import java.util.ArrayList;
import java.util.Deque;
import java.util.List;

/**
 * What the document says, in the plainest words that Java has for it: it makes new lists where the
 * class writes into rooms of its own, and it asks each coordinate where the class counts borders.
 * RandomRunsTest compares the two.
 */
final class Model {
    static final int INVALID = -2000000001;
    static final int ILLEGAL = -2000000002;
    static final int FULL = -2000000003;
    static final int NONE = -2000000009;

    record Border(int position, int kind, int reach) {
        boolean occupies(int c) {
            return c >= position - reach && c <= position + reach;
        }

        boolean isSticky() {
            return kind == 0;
        }
    }

    record Region(int gain0, int gain1, int gain2, int lock) {
        int gain(int gain) {
            return gain == 0 ? gain0 : gain == 1 ? gain1 : gain2;
        }

        Region with(int gain, int value) {
            return new Region(gain == 0 ? value : gain0, gain == 1 ? value : gain1,
                    gain == 2 ? value : gain2, lock);
        }

        Region locked(int by) {
            return new Region(gain0, gain1, gain2, by);
        }
    }

    /** Never changed: every change makes another one. */
    record Table(List<List<Border>> axes, List<List<Region>> columns) {
        static Table empty() {
            return new Table(List.of(List.of(), List.of()),
                    List.of(List.of(new Region(0, 0, 0, NONE))));
        }

        Region at(int column, int row) {
            return columns.get(column).get(row);
        }

        int regions() {
            return columns.size() * columns.get(0).size();
        }

        int sum() {
            int sum = 0;
            for (List<Region> column : columns) {
                for (Region r : column) {
                    sum += r.gain0 + r.gain1 + r.gain2;
                }
            }
            return sum;
        }

        int locks(int operator) {
            int held = 0;
            for (List<Region> column : columns) {
                for (Region r : column) {
                    held += r.lock == operator ? 1 : 0;
                }
            }
            return held;
        }

        Table withRegion(int column, int row, Region region) {
            List<List<Region>> all = new ArrayList<>(columns);
            List<Region> one = new ArrayList<>(all.get(column));
            one.set(row, region);
            all.set(column, one);
            return new Table(axes, all);
        }

        Table withBorders(int axis, List<Border> borders) {
            return new Table(axis == 0 ? List.of(borders, axes.get(1))
                    : List.of(axes.get(0), borders), columns);
        }

        Table withBorder(int axis, Border border) {
            List<Border> borders = new ArrayList<>(axes.get(axis));
            int number = 0;
            while (number < borders.size() && borders.get(number).position < border.position) {
                number++;
            }
            borders.add(number, border);
            List<List<Region>> all = new ArrayList<>();
            for (List<Region> column : columns) {
                all.add(new ArrayList<>(column));
            }
            if (axis == 0) {
                all.add(number, new ArrayList<>(all.get(number)));
            } else {
                for (List<Region> column : all) {
                    column.add(number, column.get(number));
                }
            }
            return new Table(axes, all).withBorders(axis, borders);
        }

        Table withoutBorder(int axis, int number) {
            List<Border> borders = new ArrayList<>(axes.get(axis));
            borders.remove(number);
            List<List<Region>> all = new ArrayList<>();
            for (List<Region> column : columns) {
                all.add(new ArrayList<>(column));
            }
            if (axis == 0) {
                all.remove(number + 1);
            } else {
                for (List<Region> column : all) {
                    column.remove(number + 1);
                }
            }
            return new Table(axes, all).withBorders(axis, borders);
        }

        /** The numbers of the sticky borders of an axis. */
        List<Integer> sticky(int axis) {
            List<Integer> sticky = new ArrayList<>();
            for (int b = 0; b < axes.get(axis).size(); b++) {
                if (axes.get(axis).get(b).isSticky()) {
                    sticky.add(b);
                }
            }
            return sticky;
        }

        /** The zone in which a coordinate lies by the positions alone. */
        int zoneOf(int axis, int c) {
            int zone = 0;
            for (int b : sticky(axis)) {
                zone += c >= axes.get(axis).get(b).position ? 1 : 0;
            }
            return zone;
        }

        int zoneAfter(int axis, int zone, int c) {
            List<Integer> sticky = sticky(axis);
            while (zone < sticky.size()) {
                Border upper = axes.get(axis).get(sticky.get(zone));
                if (c < upper.position + upper.reach) {
                    break;
                }
                zone++;
            }
            while (zone > 0) {
                Border lower = axes.get(axis).get(sticky.get(zone - 1));
                if (c >= lower.position - lower.reach) {
                    break;
                }
                zone--;
            }
            return zone;
        }

        /** Low strip, high strip, numerator, denominator. */
        int[] blend(int axis, int zone, int c) {
            List<Border> borders = axes.get(axis);
            List<Integer> sticky = sticky(axis);
            int u = c;
            if (zone > 0 && u < borders.get(sticky.get(zone - 1)).position) {
                u = borders.get(sticky.get(zone - 1)).position;
            }
            if (zone < sticky.size() && u >= borders.get(sticky.get(zone)).position) {
                u = borders.get(sticky.get(zone)).position - 1;
            }
            int strip = 0;
            for (int b = 0; b < borders.size(); b++) {
                Border border = borders.get(b);
                if (!border.isSticky() && border.occupies(u)) {
                    return new int[] {b, b + 1, u - border.position + border.reach,
                        2 * border.reach};
                }
                if (u >= border.position) {
                    strip = b + 1;
                }
            }
            return new int[] {strip, strip, 0, 1};
        }

        int[] fraction(int zone0, int zone1, int x, int y, int gain) {
            int[] a = blend(0, zone0, x);
            int[] b = blend(1, zone1, y);
            int numerator = 0;
            for (int high0 = 0; high0 <= 1; high0++) {
                for (int high1 = 0; high1 <= 1; high1++) {
                    int weight0 = high0 == 1 ? a[2] : a[3] - a[2];
                    int weight1 = high1 == 1 ? b[2] : b[3] - b[2];
                    numerator += weight0 * weight1 * at(a[high0], b[high1]).gain(gain);
                }
            }
            return new int[] {numerator / (a[3] * b[3]), numerator, a[3] * b[3]};
        }

        int value(int zone0, int zone1, int x, int y, int gain) {
            return fraction(zone0, zone1, x, y, gain)[0];
        }

        int valueAt(int x, int y, int gain) {
            return value(zoneOf(0, x), zoneOf(1, y), x, y, gain);
        }

        /** The error code that forbids the border, or 0; the numbers are in their ranges. */
        int against(int axis, Border border, int except) {
            if (border.kind == 1 && border.reach == 0 || border.position - border.reach < 0
                    || border.position + border.reach > 1000) {
                return INVALID;
            }
            for (int b = 0; b < axes.get(axis).size(); b++) {
                for (int c = 0; c <= 1000; c++) {
                    if (b != except && border.occupies(c) && axes.get(axis).get(b).occupies(c)) {
                        return ILLEGAL;
                    }
                }
            }
            return except < 0 && axes.get(axis).size() == 6 ? FULL : 0;
        }

        int changes(int axis, int zone, int center, int amplitude, int turns) {
            int changes = 0;
            for (int turn = 1; turn <= turns; turn++) {
                int c = turn % 2 == 1 ? center + amplitude : center - amplitude;
                int next = zoneAfter(axis, zone, c);
                changes += next != zone ? 1 : 0;
                zone = next;
            }
            return changes;
        }
    }

    private Table table = Table.empty();
    private int[] point = {500, 500};
    private int[] zones = {0, 0};
    private int margin;
    private int ignored;
    private int carried;
    private int[] steps = {100, 100, 100};
    private int[] budgets = {1000, 1000, 1000};
    private int[] edits = {0, 0, 0};
    private int[] accounts = {0, 0, 0, 0};
    private List<Table> snapshots = new ArrayList<>(java.util.Arrays.asList(null, null, null));
    private List<int[]> trail = new ArrayList<>();
    private Deque<Model> history = new ArrayDeque<>();
    private StringBuilder text = new StringBuilder();

    private void copyFrom(Model m) {
        table = m.table;
        point = m.point.clone();
        zones = m.zones.clone();
        margin = m.margin;
        ignored = m.ignored;
        carried = m.carried;
        steps = m.steps.clone();
        budgets = m.budgets.clone();
        edits = m.edits.clone();
        accounts = m.accounts.clone();
        snapshots = new ArrayList<>(m.snapshots);
        trail = new ArrayList<>(m.trail);
    }

    private void action() {
        Model state = new Model();
        state.copyFrom(this);
        history.addLast(state);
        if (history.size() > 5) {
            history.removeFirst();
        }
    }

    private static boolean in(int n, int least, int greatest) {
        return least <= n && n <= greatest;
    }

    private void become(Table other) {
        accounts[3] += other.sum() - table.sum();
        table = other;
        zones = new int[] {table.zoneOf(0, point[0]), table.zoneOf(1, point[1])};
    }

    int addBorder(int axis, int position, int kind, int reach) {
        if (!in(axis, 0, 1) || !in(position, 1, 999) || !in(kind, 0, 1) || !in(reach, 0, 100)) {
            return INVALID;
        }
        Border border = new Border(position, kind, reach);
        int error = table.against(axis, border, -1);
        if (error != 0) {
            return error;
        }
        action();
        become(table.withBorder(axis, border));
        return table.axes.get(axis).indexOf(border);
    }

    int removeBorder(int axis, int border) {
        if (!in(axis, 0, 1) || !in(border, 0, table.axes.get(axis).size() - 1)) {
            return INVALID;
        }
        action();
        become(table.withoutBorder(axis, border));
        return table.axes.get(axis).size();
    }

    int setReach(int axis, int border, int reach) {
        if (!in(axis, 0, 1) || !in(border, 0, table.axes.get(axis).size() - 1)
                || !in(reach, 0, 100)) {
            return INVALID;
        }
        Border old = table.axes.get(axis).get(border);
        Border changed = new Border(old.position, old.kind, reach);
        int error = table.against(axis, changed, border);
        if (error != 0) {
            return error;
        }
        action();
        List<Border> borders = new ArrayList<>(table.axes.get(axis));
        borders.set(border, changed);
        become(table.withBorders(axis, borders));
        return old.reach;
    }

    int setOperator(int operator, int what, int value) {
        if (!in(operator, 0, 2) || !in(what, 0, 1)
                || what == 0 && !in(value, 1, 9999) || what == 1 && !in(value, 0, 99999)) {
            return INVALID;
        }
        action();
        int[] row = what == 0 ? steps : budgets;
        int old = row[operator];
        row[operator] = value;
        return old;
    }

    int refusal(int operator, int column, int row, int gain, int value) {
        if (!in(operator, 0, 2) || !in(column, 0, table.columns.size() - 1)
                || !in(row, 0, table.columns.get(0).size() - 1) || !in(gain, 0, 2)
                || !in(value, 0, 9999)) {
            return INVALID;
        }
        Region region = table.at(column, row);
        int difference = Math.abs(region.gain(gain) - value);
        return region.lock != NONE && region.lock != operator ? 1
                : difference > steps[operator] ? 2 : difference > budgets[operator] ? 3 : 0;
    }

    private void carryOut(int operator, int column, int row, int gain, int value) {
        Region region = table.at(column, row);
        int difference = value - region.gain(gain);
        budgets[operator] -= Math.abs(difference);
        accounts[operator] += difference;
        edits[operator]++;
        table = table.withRegion(column, row, region.with(gain, value));
    }

    int edit(int operator, int column, int row, int gain, int value) {
        int reason = refusal(operator, column, row, gain, value);
        if (reason != 0) {
            return reason == INVALID ? INVALID : ILLEGAL;
        }
        action();
        int old = table.at(column, row).gain(gain);
        carryOut(operator, column, row, gain, value);
        return old;
    }

    int scale(int operator, int gain, int percent) {
        if (!in(operator, 0, 2) || !in(gain, 0, 2) || !in(percent, 0, 1000)) {
            return INVALID;
        }
        action();
        int done = 0;
        for (int column = 0; column < table.columns.size(); column++) {
            for (int row = 0; row < table.columns.get(0).size(); row++) {
                int value = table.at(column, row).gain(gain) * percent / 100;
                value = value > 9999 ? 9999 : value;
                if (refusal(operator, column, row, gain, value) == 0) {
                    carryOut(operator, column, row, gain, value);
                    done++;
                }
            }
        }
        return done;
    }

    int lock(int operator, int column, int row, int locked) {
        if (!in(operator, 0, 2) || !in(column, 0, table.columns.size() - 1)
                || !in(row, 0, table.columns.get(0).size() - 1) || !in(locked, 0, 1)) {
            return INVALID;
        }
        Region region = table.at(column, row);
        if (locked == 1 && region.lock != NONE || locked == 0 && region.lock != operator) {
            return ILLEGAL;
        }
        action();
        table = table.withRegion(column, row, region.locked(locked == 1 ? operator : NONE));
        return table.locks(operator);
    }

    int setMargin(int value) {
        if (!in(value, 0, 50)) {
            return INVALID;
        }
        action();
        int old = margin;
        margin = value;
        return old;
    }

    private int[] values(int[] z, int[] p) {
        int[] values = new int[3];
        for (int gain = 0; gain < 3; gain++) {
            values[gain] = table.value(z[0], z[1], p[0], p[1], gain);
        }
        return values;
    }

    private static int difference(int[] a, int[] b) {
        int greatest = 0;
        for (int i = 0; i < a.length; i++) {
            greatest = Math.max(greatest, Math.abs(a[i] - b[i]));
        }
        return greatest;
    }

    private boolean ignores(int x, int y) {
        return Math.abs(x - point[0]) < margin && Math.abs(y - point[1]) < margin;
    }

    private int[] zonesAfter(int x, int y) {
        return new int[] {table.zoneAfter(0, zones[0], x), table.zoneAfter(1, zones[1], y)};
    }

    private int go(int x, int y) {
        if (ignores(x, y)) {
            ignored++;
            return NONE;
        }
        int[] ahead = values(zones, point);
        zones = zonesAfter(x, y);
        point = new int[] {x, y};
        int[] behind = values(zones, point);
        int jump = difference(ahead, behind);
        trail.add(0, new int[] {x, y, zones[0], zones[1], behind[0], behind[1], behind[2], jump});
        if (trail.size() > 20) {
            trail.remove(20);
        }
        carried++;
        return jump;
    }

    int move(int x, int y) {
        if (!in(x, 0, 1000) || !in(y, 0, 1000)) {
            return INVALID;
        }
        action();
        return go(x, y);
    }

    int sweep(int axis, int to, int step) {
        if (!in(axis, 0, 1) || !in(to, 0, 1000) || !in(step, 1, 1000)) {
            return INVALID;
        }
        if (point[axis] == to) {
            return ILLEGAL;
        }
        action();
        int start = point[axis];
        int distance = Math.abs(to - start);
        int changes = 0;
        for (int done = 0; done < distance; done += step) {
            int along = Math.min(done + step, distance);
            int place = to > start ? start + along : start - along;
            int zone = zones[axis];
            go(axis == 0 ? place : point[0], axis == 1 ? place : point[1]);
            changes += zones[axis] != zone ? 1 : 0;
        }
        return changes;
    }

    int take(int place) {
        if (!in(place, 0, 2)) {
            return INVALID;
        }
        action();
        snapshots.set(place, table);
        return table.regions();
    }

    int restore(int place) {
        if (!in(place, 0, 2)) {
            return INVALID;
        }
        if (snapshots.get(place) == null) {
            return ILLEGAL;
        }
        action();
        become(snapshots.get(place));
        return table.regions();
    }

    int undo() {
        if (history.isEmpty()) {
            return ILLEGAL;
        }
        copyFrom(history.removeLast());
        return history.size();
    }

    int append(int character) {
        if (!in(character, 1, 255)) {
            return INVALID;
        }
        if (text.length() == 160) {
            return FULL;
        }
        text.append((char) character);
        return text.length();
    }

    int clearText() {
        int old = text.length();
        text = new StringBuilder();
        return old;
    }

    int load() {
        ModelText reader = new ModelText(text.toString());
        Table read = reader.read();
        if (read == null) {
            return -2000001000 - reader.errorPosition();
        }
        action();
        become(read);
        text = new StringBuilder();
        return reader.items();
    }

    int count(int what) {
        int taken = 0;
        for (Table t : snapshots) {
            taken += t != null ? 1 : 0;
        }
        int[] all = {table.regions(), margin, point[0], point[1], zones[0], zones[1], trail.size(),
            ignored, carried, history.size(), text.length(), taken};
        return in(what, 0, 11) ? all[what] : INVALID;
    }

    int axis(int axis, int what) {
        if (!in(axis, 0, 1) || !in(what, 0, 5)) {
            return INVALID;
        }
        return what == 0 ? table.axes.get(axis).size()
                : what == 1 ? table.sticky(axis).size() + 1
                : table.blend(axis, zones[axis], point[axis])[what - 2];
    }

    int border(int axis, int border, int what) {
        if (!in(axis, 0, 1) || border < 0 || !in(what, 0, 2)) {
            return INVALID;
        }
        if (border >= table.axes.get(axis).size()) {
            return NONE;
        }
        Border b = table.axes.get(axis).get(border);
        return what == 0 ? b.position : what == 1 ? b.kind : b.reach;
    }

    int region(int column, int row, int what) {
        if (!in(column, 0, table.columns.size() - 1)
                || !in(row, 0, table.columns.get(0).size() - 1) || !in(what, 0, 3)) {
            return INVALID;
        }
        Region region = table.at(column, row);
        return what == 3 ? region.lock : region.gain(what);
    }

    int operator(int operator, int what) {
        if (!in(operator, 0, 2) || !in(what, 0, 3)) {
            return INVALID;
        }
        return what == 0 ? steps[operator] : what == 1 ? budgets[operator]
                : what == 2 ? table.locks(operator) : edits[operator];
    }

    int account(int account) {
        if (!in(account, 0, 4)) {
            return INVALID;
        }
        // As the document says, not as the class adds: the four together are the sum of all gains.
        return account == 4 ? table.sum() : accounts[account];
    }

    int gain(int gain, int what) {
        if (!in(gain, 0, 2) || !in(what, 0, 2)) {
            return INVALID;
        }
        return table.fraction(zones[0], zones[1], point[0], point[1], gain)[what];
    }

    int trail(int back, int what) {
        if (back < 0 || !in(what, 0, 7)) {
            return INVALID;
        }
        return back < trail.size() ? trail.get(back)[what] : NONE;
    }

    int effect(int x, int y) {
        if (!in(x, 0, 1000) || !in(y, 0, 1000)) {
            return INVALID;
        }
        if (ignores(x, y)) {
            return 0;
        }
        int[] then = zonesAfter(x, y);
        int difference = difference(values(zones, point), values(then, new int[] {x, y}));
        return 1 + (then[0] != zones[0] ? 2 : 0) + (then[1] != zones[1] ? 4 : 0)
                + (difference > 0 ? 8 : 0);
    }

    int valueAt(int x, int y, int gain) {
        if (!in(x, 0, 1000) || !in(y, 0, 1000) || !in(gain, 0, 2)) {
            return INVALID;
        }
        return table.valueAt(x, y, gain);
    }

    int chatter(int axis, int center, int amplitude, int turns) {
        if (!in(axis, 0, 1) || !in(center, 0, 1000) || !in(amplitude, 0, 500)
                || !in(turns, 1, 100) || !in(center - amplitude, 0, 1000)
                || !in(center + amplitude, 0, 1000)) {
            return INVALID;
        }
        return table.changes(axis, zones[axis], center, amplitude, turns);
    }

    int calmReach(int axis, int border, int amplitude) {
        if (!in(axis, 0, 1) || !in(border, 0, table.axes.get(axis).size() - 1)
                || !in(amplitude, 0, 500)) {
            return INVALID;
        }
        Border old = table.axes.get(axis).get(border);
        if (!in(old.position - amplitude, 0, 1000) || !in(old.position + amplitude, 0, 1000)) {
            return INVALID;
        }
        if (!old.isSticky()) {
            return ILLEGAL;
        }
        for (int reach = 0; reach <= 100; reach++) {
            Model tried = new Model();
            tried.copyFrom(this);
            if (tried.setReach(axis, border, reach) >= 0
                    && tried.chatter(axis, old.position, amplitude, 100) <= 1) {
                return reach;
            }
        }
        return NONE;
    }

    int steepest(int axis, int gain, int what) {
        if (!in(axis, 0, 1) || !in(gain, 0, 2) || !in(what, 0, 1)) {
            return INVALID;
        }
        int greatest = -1;
        int place = -1;
        for (int c = 0; c < 1000; c++) {
            int here = axis == 0 ? table.valueAt(c, point[1], gain)
                    : table.valueAt(point[0], c, gain);
            int next = axis == 0 ? table.valueAt(c + 1, point[1], gain)
                    : table.valueAt(point[0], c + 1, gain);
            if (Math.abs(next - here) > greatest) {
                greatest = Math.abs(next - here);
                place = c;
            }
        }
        return what == 0 ? greatest : place;
    }
}
