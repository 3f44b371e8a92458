import java.lang.management.ManagementFactory;
import java.lang.reflect.Array;
import java.lang.reflect.Field;
import java.lang.reflect.Modifier;
import java.util.ArrayList;
import java.util.IdentityHashMap;
import java.util.List;
import java.util.Map;

/** How much room an object takes: a little when it is made, and nothing more by its calls. */
final class RoomTest {
    private static final Check check = new Check("RoomTest");
    private static final int MOST_OBJECTS = 1000;
    private static final int MOST_ELEMENTS = 20000;

    public static void main(String[] args) throws IllegalAccessException {
        GainTables table = new GainTables();
        long[] room = room(table);
        System.out.println("RoomTest: a new object has " + room[0] + " objects and arrays with "
                + room[1] + " fields and elements");
        check.holds("few objects", room[0] <= MOST_OBJECTS);
        check.holds("few elements", room[1] <= MOST_ELEMENTS);
        callsOfARun(table);
        long[] then = room(table);
        check.due("objects behind 512 calls", then[0], room[0]);
        check.due("elements behind 512 calls", then[1], room[1]);
        callsMakeNothing();
        check.end();
    }

    private static void callsOfARun(GainTables table) {
        RandomCalls random = new RandomCalls(7);
        for (int i = 0; i < 512; i++) {
            random.next(table).on(table);
        }
    }

    /** What is made between two looks at the bytes that this thread has been given. */
    private static void callsMakeNothing() {
        com.sun.management.ThreadMXBean threads =
                (com.sun.management.ThreadMXBean) ManagementFactory.getThreadMXBean();
        if (!threads.isThreadAllocatedMemorySupported()) {
            System.out.println("RoomTest: this machine does not tell what calls make");
            return;
        }
        GainTables table = new GainTables();
        long none = Long.MAX_VALUE;
        long least = Long.MAX_VALUE;
        for (int time = 0; time < 20; time++) {
            long start = threads.getCurrentThreadAllocatedBytes();
            long middle = threads.getCurrentThreadAllocatedBytes();
            everyMethod(table);
            long end = threads.getCurrentThreadAllocatedBytes();
            none = Math.min(none, middle - start);
            least = Math.min(least, end - middle);
        }
        check.due("bytes that calls make", least, none);
    }

    private static void everyMethod(GainTables t) {
        t.addBorder(0, 400, 0, 20);
        t.addBorder(1, 600, 1, 20);
        t.setReach(0, 0, 30);
        t.setOperator(0, 1, 9999);
        t.edit(0, 0, 0, 0, 50);
        t.scale(0, 0, 90);
        t.lock(0, 0, 0, 1);
        t.setMargin(2);
        t.move(300, 300);
        t.sweep(0, 600, 7);
        t.take(1);
        t.restore(1);
        t.undo();
        t.removeBorder(0, 0);
        t.append('x');
        t.load();
        t.clearText();
        t.append('x');
        t.append('5');
        t.append(' ');
        t.append('0');
        t.append(';');
        t.load();
        for (int what = 0; what <= 11; what++) {
            t.count(what);
            t.axis(0, what);
            t.border(0, 0, what);
            t.region(0, 0, what);
            t.operator(0, what);
            t.account(what);
            t.gain(0, what);
            t.trail(0, what);
        }
        t.refusal(0, 0, 0, 0, 1);
        t.effect(1, 1);
        t.valueAt(1, 1, 1);
        t.chatter(0, 500, 100, 100);
        t.calmReach(0, 0, 4);
        t.steepest(1, 0, 0);
    }

    private static long[] room(Object root) throws IllegalAccessException {
        Map<Object, Boolean> seen = new IdentityHashMap<>();
        List<Object> open = new ArrayList<>();
        open.add(root);
        seen.put(root, true);
        long elements = 0;
        for (int next = 0; next < open.size(); next++) {
            Object object = open.get(next);
            List<Object> parts = new ArrayList<>();
            elements += parts(object, parts);
            for (Object part : parts) {
                if (part != null && seen.put(part, true) == null) {
                    open.add(part);
                }
            }
        }
        return new long[] {open.size(), elements};
    }

    private static long parts(Object object, List<Object> parts) throws IllegalAccessException {
        if (object.getClass().isArray()) {
            int length = Array.getLength(object);
            if (!object.getClass().getComponentType().isPrimitive()) {
                for (int i = 0; i < length; i++) {
                    parts.add(Array.get(object, i));
                }
            }
            return length;
        }
        long fields = 0;
        for (Field field : object.getClass().getDeclaredFields()) {
            if (!Modifier.isStatic(field.getModifiers())) {
                fields++;
                if (!field.getType().isPrimitive()) {
                    field.setAccessible(true);
                    parts.add(field.get(object));
                }
            }
        }
        return fields;
    }
}
