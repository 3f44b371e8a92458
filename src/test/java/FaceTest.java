import java.lang.reflect.Constructor;
import java.lang.reflect.Field;
import java.lang.reflect.Method;
import java.lang.reflect.Modifier;
import java.util.Set;
import java.util.TreeSet;

/** The public face of the class: what the document lists, and nothing else. */
final class FaceTest {
    private static final Check check = new Check("FaceTest");
    private static final String[] METHODS = {"addBorder 4", "removeBorder 2", "setReach 3",
        "setOperator 3", "edit 5", "scale 3", "lock 4", "setMargin 1", "move 2", "sweep 3", "take 1",
        "restore 1", "undo 0", "append 1", "clearText 0", "load 0", "count 1", "axis 2", "border 3",
        "region 3", "operator 2", "account 1", "gain 2", "trail 2", "refusal 5", "effect 2",
        "valueAt 3", "chatter 4", "calmReach 3", "steepest 3"};
    private static final String[] CONSTANTS = {"INVALID_ARGUMENT", "ILLEGAL_STATE",
        "CAPACITY_EXCEEDED", "NONE"};

    public static void main(String[] args) {
        methods();
        fields();
        constructors();
        classesInside();
        check.end();
    }

    private static void methods() {
        Set<String> seen = new TreeSet<>();
        Set<String> names = new TreeSet<>();
        for (String method : METHODS) {
            names.add(method.substring(0, method.indexOf(' ')));
        }
        for (Method m : GainTables.class.getDeclaredMethods()) {
            if (Modifier.isPrivate(m.getModifiers())) {
                check.holds("no private method is named " + m.getName(),
                        !names.contains(m.getName()));
                continue;
            }
            check.holds(m.getName() + " is public", Modifier.isPublic(m.getModifiers())
                    && !Modifier.isStatic(m.getModifiers()));
            check.holds(m.getName() + " answers an int", m.getReturnType() == int.class);
            for (Class<?> parameter : m.getParameterTypes()) {
                check.holds(m.getName() + " takes ints", parameter == int.class);
            }
            seen.add(m.getName() + " " + m.getParameterCount());
        }
        check.due("the public methods", seen.toString(), new TreeSet<>(Set.of(METHODS)).toString());
    }

    private static void fields() {
        Set<String> seen = new TreeSet<>();
        for (Field f : GainTables.class.getDeclaredFields()) {
            check.holds(f.getName() + " is final", Modifier.isFinal(f.getModifiers()));
            if (!Modifier.isPrivate(f.getModifiers())) {
                check.holds(f.getName() + " is a constant", Modifier.isPublic(f.getModifiers())
                        && Modifier.isStatic(f.getModifiers()) && f.getType() == int.class);
                seen.add(f.getName());
            }
        }
        check.due("the constants", seen.toString(), new TreeSet<>(Set.of(CONSTANTS)).toString());
    }

    private static void constructors() {
        Constructor<?>[] all = GainTables.class.getDeclaredConstructors();
        check.due("constructors", all.length, 1);
        check.due("its parameters", all[0].getParameterCount(), 0);
        check.holds("it is public", Modifier.isPublic(all[0].getModifiers()));
        check.holds("the class is public and final",
                Modifier.isPublic(GainTables.class.getModifiers())
                && Modifier.isFinal(GainTables.class.getModifiers()));
        check.holds("it extends nothing", GainTables.class.getSuperclass() == Object.class
                && GainTables.class.getInterfaces().length == 0);
    }

    private static void classesInside() {
        Class<?>[] inside = GainTables.class.getDeclaredClasses();
        check.holds("at most twelve classes", inside.length <= 12);
        Set<String> names = new TreeSet<>();
        for (String method : METHODS) {
            names.add(method.substring(0, method.indexOf(' ')));
        }
        for (Class<?> c : inside) {
            check.holds(c.getName() + " is static", Modifier.isStatic(c.getModifiers()));
            check.holds(c.getName() + " is not public", !Modifier.isPublic(c.getModifiers())
                    && !Modifier.isProtected(c.getModifiers()));
            int fields = 0;
            for (Field f : c.getDeclaredFields()) {
                fields += Modifier.isStatic(f.getModifiers()) ? 0 : 1;
            }
            check.holds(c.getName() + " has at most twenty fields", fields <= 20);
            for (Method m : c.getDeclaredMethods()) {
                check.holds("no method inside is named " + m.getName(),
                        !names.contains(m.getName()));
            }
        }
    }
}
