import java.nio.charset.StandardCharsets;
import java.nio.file.Files;
import java.nio.file.Path;
import java.util.regex.Matcher;
import java.util.regex.Pattern;

/** The rules of ../shared/LANGUAGE.md that a look at the source can tell. */
final class LanguageTest {
    private static final Check check = new Check("LanguageTest");
    private static final String[] FORBIDDEN = {"throw", "throws", "try", "catch", "finally",
        "synchronized", "assert", "package", "protected", "volatile", "transient", "native", "var",
        "yield", "instanceof", "float", "double", "Object", "System\\.out", "System\\.in",
        "System\\.nanoTime", "System\\.currentTimeMillis", "Random", "Thread", "Exception",
        "\\w+Exact", "hashCode", "toString", "equals", "goto", "this"};

    public static void main(String[] args) throws java.io.IOException {
        String source = Files.readString(Path.of("src/main/java/GainTables.java"),
                StandardCharsets.UTF_8);
        for (int i = 0; i < source.length(); i++) {
            check.holds("character " + i + " is plain", source.charAt(i) <= 127);
        }
        String code = withoutComments(source);
        for (String word : FORBIDDEN) {
            Matcher m = Pattern.compile("(?<![\\w.])" + word + "(?!\\w)").matcher(code);
            check.holds("the program is without " + word, !m.find());
        }
        check.holds("no lambda", !code.contains("->"));
        check.holds("no method reference", !code.contains("::"));
        check.holds("no texts", !code.contains("\""));
        imports(code);
        loopsHaveEnds(code);
        methods(code);
        noCallThrows();
        check.end();
    }

    /** Rule 7: each method with all that its arguments can be at the ends of their ranges. */
    private static void noCallThrows() {
        int[] edges = {Integer.MIN_VALUE, -1, 0, 1, 3, 100, 1000, 9999, Integer.MAX_VALUE};
        for (java.lang.reflect.Method m : Call.FACE) {
            GainTables table = Look.rich("x400 50;x700 9~;y300 0;y600 100~;g1 1 2 90;");
            int calls = (int) Math.pow(edges.length, m.getParameterCount());
            for (int i = 0; i < calls; i++) {
                int[] arguments = new int[m.getParameterCount()];
                int rest = i;
                for (int a = 0; a < arguments.length; a++) {
                    arguments[a] = edges[rest % edges.length];
                    rest /= edges.length;
                }
                // Call.on() throws if the method does, which ends this test.
                new Call(m.getName(), arguments).on(table);
            }
            check.holds("accounts behind calls of " + m.getName(), table.account(4)
                    == table.account(0) + table.account(1) + table.account(2) + table.account(3));
        }
    }

    private static String withoutComments(String source) {
        return source.replaceAll("(?s)/\\*.*?\\*/", "").replaceAll("//[^\n]*", "");
    }

    private static void imports(String code) {
        Matcher m = Pattern.compile("(?m)^import ([^;]*);").matcher(code);
        while (m.find()) {
            check.due("import", m.group(1), "java.util.Arrays");
        }
    }

    /** No loop without a bound to be compared with. */
    private static void loopsHaveEnds(String code) {
        Matcher m = Pattern.compile("(?s)(?:while|for) \\(([^{]*)\\) \\{").matcher(code);
        while (m.find()) {
            check.holds("an end of the loop " + m.group(1),
                    m.group(1).matches("(?s).*(<|>|<=|>=) .*"));
        }
    }

    private static void methods(String code) {
        String[] lines = code.split("\n");
        int start = -1;
        String indent = "";
        for (int i = 0; i < lines.length; i++) {
            String line = lines[i];
            if (start < 0 && line.matches("( {4}| {8})[\\w\\[\\] ]+\\(.*")
                    && !line.contains(" = ")) {
                start = i;
                indent = line.substring(0, line.indexOf(line.trim()));
                String head = line;
                for (int j = i; !lines[j].contains(")"); j++) {
                    head += lines[j + 1];
                }
                check.holds("at most seven parameters: " + head,
                        head.chars().filter(c -> c == ',').count() <= 6);
            } else if (start >= 0 && line.equals(indent + "}")) {
                check.holds("at most sixty lines: " + lines[start], i - start < 60);
                start = -1;
            }
        }
    }
}
