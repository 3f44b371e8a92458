import java.io.IOException;
import java.lang.reflect.Constructor;
import java.lang.reflect.Field;
import java.lang.reflect.Method;
import java.lang.reflect.Modifier;
import java.nio.charset.StandardCharsets;
import java.nio.file.Files;
import java.nio.file.Path;
import java.util.ArrayList;
import java.util.List;
import java.util.Set;
import java.util.TreeSet;

/** The public face of the class: what the document lists, as it lists it, and nothing else. */
final class FaceTest {
    private static final Check check = new Check("FaceTest");
    private static final String INTERFACE_SAYS = " the interface says: ";
    private static final List<String> FACE = face();
    private static final List<String> METHODS = new ArrayList<>();
    private static final List<String> NAMES = new ArrayList<>();
    private static final List<String> CONSTANTS = new ArrayList<>();

    public static void main(String[] args) throws IOException {
        List<String> source = Files.readAllLines(Path.of("src/main/java/GainTables.java"),
                StandardCharsets.UTF_8);
        readFace();
        lines(source);
        headings(source);
        methods();
        fields();
        constructors();
        classesInside();
        check.end();
    }

    /** The lines between those of the class, as the document has them. */
    private static List<String> face() {
        List<String> all = Doc.lines();
        int start = all.indexOf("public final class GainTables {");
        return all.subList(start, all.subList(start, all.size()).indexOf("}") + start);
    }

    private static void readFace() {
        for (String line : FACE) {
            String name = line.replaceAll("(?s)[(=;].*", "").trim().replaceAll(".* ", "");
            if (line.contains(" static ")) {
                CONSTANTS.add(name);
            } else if (line.contains("public int ")) {
                String parameters = line.substring(line.indexOf('(') + 1, line.indexOf(')'));
                NAMES.add(name);
                METHODS.add(name + " "
                        + (parameters.isEmpty() ? 0 : parameters.split(",").length));
            }
        }
        check.due("methods of the document", METHODS.size(), 30);
        check.due("constants of the document", CONSTANTS.size(), 4);
    }

    /** Each line stands in the source once, and in the same order. */
    private static void lines(List<String> source) {
        List<String> seen = new ArrayList<>();
        for (String line : source) {
            if (line.startsWith("public ") || line.startsWith("    public ")) {
                seen.add(line.replaceAll("\\) \\{$", ");"));
            }
        }
        check.due("the public lines", String.join("\n", seen), String.join("\n", FACE));
    }

    /** The headings of the interface, each with the calls that stand under it. */
    private static void headings(List<String> source) {
        int headings = 0;
        for (String line : Doc.lines()) {
            if (!line.startsWith(Doc.HEADING_OF_CALLS)) {
                continue;
            }
            headings++;
            int cut = line.indexOf(INTERFACE_SAYS);
            String heading = line.substring(cut + INTERFACE_SAYS.length(), line.length() - 1);
            String calls = line.substring(Doc.HEADING_OF_CALLS.length(), cut).replace("`", "");
            check.due("the calls under " + heading, callsUnder(source, heading), calls);
        }
        check.due("headings of the document", headings, 7);
    }

    private static String callsUnder(List<String> source, String heading) {
        List<String> calls = new ArrayList<>();
        int start = source.indexOf("    // " + heading);
        for (int i = start + 1; start >= 0 && i < source.size(); i++) {
            String line = source.get(i);
            if (line.startsWith("    // ----")) {
                break;
            }
            if (line.startsWith("    public int ")) {
                calls.add(line.substring("    public int ".length(), line.indexOf('(')));
            }
        }
        return String.join(", ", calls);
    }

    private static void methods() {
        Set<String> seen = new TreeSet<>();
        for (Method m : GainTables.class.getDeclaredMethods()) {
            if (Modifier.isPrivate(m.getModifiers())) {
                check.holds("no private method is named " + m.getName(),
                        !NAMES.contains(m.getName()));
                continue;
            }
            check.holds(m.getName() + " is public", Modifier.isPublic(m.getModifiers())
                    && !Modifier.isStatic(m.getModifiers()));
            check.holds(m.getName() + " answers an int", m.getReturnType() == int.class);
            for (Class<?> parameter : m.getParameterTypes()) {
                check.holds(m.getName() + " takes ints", parameter == int.class);
            }
            seen.add(m.getName() + " " + m.getParameterCount());
        }
        check.due("the public methods", seen.toString(), new TreeSet<>(METHODS).toString());
    }

    private static void fields() {
        Set<String> seen = new TreeSet<>();
        for (Field f : GainTables.class.getDeclaredFields()) {
            check.holds(f.getName() + " is final", Modifier.isFinal(f.getModifiers()));
            if (!Modifier.isPrivate(f.getModifiers())) {
                check.holds(f.getName() + " is a constant", Modifier.isPublic(f.getModifiers())
                        && Modifier.isStatic(f.getModifiers()) && f.getType() == int.class);
                seen.add(f.getName());
            }
        }
        check.due("the constants", seen.toString(), new TreeSet<>(CONSTANTS).toString());
    }

    private static void constructors() {
        Constructor<?>[] all = GainTables.class.getDeclaredConstructors();
        check.due("constructors", all.length, 1);
        check.due("its parameters", all[0].getParameterCount(), 0);
        check.holds("it is public", Modifier.isPublic(all[0].getModifiers()));
        check.holds("the class is public and final",
                Modifier.isPublic(GainTables.class.getModifiers())
                && Modifier.isFinal(GainTables.class.getModifiers()));
        check.holds("it extends nothing", GainTables.class.getSuperclass() == Object.class
                && GainTables.class.getInterfaces().length == 0);
    }

    private static void classesInside() {
        Class<?>[] inside = GainTables.class.getDeclaredClasses();
        check.holds("at most twelve classes", inside.length <= 12);
        for (Class<?> c : inside) {
            check.holds(c.getName() + " is static", Modifier.isStatic(c.getModifiers()));
            check.holds(c.getName() + " is not public", !Modifier.isPublic(c.getModifiers())
                    && !Modifier.isProtected(c.getModifiers()));
            int fields = 0;
            for (Field f : c.getDeclaredFields()) {
                fields += Modifier.isStatic(f.getModifiers()) ? 0 : 1;
            }
            check.holds(c.getName() + " has at most twenty fields", fields <= 20);
            for (Method m : c.getDeclaredMethods()) {
                check.holds("no method inside is named " + m.getName(),
                        !NAMES.contains(m.getName()));
            }
        }
    }
}
