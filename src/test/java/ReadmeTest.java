import java.io.IOException;
import java.nio.charset.StandardCharsets;
import java.nio.file.FileSystems;
import java.nio.file.Files;
import java.nio.file.Path;
import java.nio.file.PathMatcher;
import java.util.ArrayList;
import java.util.Comparator;
import java.util.List;
import java.util.TreeSet;
import java.util.regex.Matcher;
import java.util.regex.Pattern;
import java.util.stream.Collectors;
import java.util.stream.Stream;

/** What README.md says of using the class and of running its tests holds on a clean checkout. */
final class ReadmeTest {
    private static final Check check = new Check("ReadmeTest");
    private static final String CI = ".ci/run";

    private static String page;

    public static void main(String[] args) throws IOException, InterruptedException {
        page = Files.readString(Path.of("README.md"), StandardCharsets.UTF_8);
        example();
        calls();
        answersBelowAllOthers();
        itemsOfAText();
        tableOfTests();
        pathsExist();
        Path copy = Files.createTempDirectory("readme");
        try {
            commands(copy);
        } finally {
            remove(copy);
        }
        check.end();
    }

    /** What stands in the fenced blocks of a kind, in their order. */
    private static List<String> blocks(String kind) {
        List<String> blocks = new ArrayList<>();
        Matcher m = Pattern.compile("(?ms)^```" + kind + "\n(.*?)^```$").matcher(page);
        while (m.find()) {
            blocks.add(m.group(1));
        }
        return blocks;
    }

    private static List<String> linesFrom(String heading) {
        List<String> lines = page.lines().toList();
        int start = lines.indexOf(heading) + 1;
        check.holds("the heading " + heading, start > 0);
        int end = start;
        while (end < lines.size() && !lines.get(end).startsWith("#")) {
            end++;
        }
        return lines.subList(start, end);
    }

    private static void example() throws IOException {
        check.due("examples", blocks("java").size(), 1);
        check.due("the example", blocks("java").get(0), Files.readString(
                Path.of("src/example/java/Example.java"), StandardCharsets.UTF_8));
    }

    /** The headings and calls of the document's interface, with a star at those that are actions. */
    private static void calls() {
        List<String> due = new ArrayList<>();
        List<String> doc = Doc.lines();
        for (String line : doc) {
            Matcher m = Pattern.compile("    public (?:int )?(\\w+)\\((.*)\\);").matcher(line);
            if (m.matches()) {
                doc.stream().filter(l -> l.startsWith(Doc.HEADING_OF_CALLS + "`" + m.group(1) + "`"))
                        .forEach(l -> due.add("**" + l.substring(l.indexOf("---- ") + 5,
                                l.length() - 1) + "**"));
                String call = m.group(1) + "(" + m.group(2).replace("int ", "") + ")";
                due.add("`" + call + "`" + (isAction(doc, m.group(1)) ? " *" : ""));
            }
        }
        List<String> seen = linesFrom("### The calls").stream().filter(l -> l.startsWith("| "))
                .skip(2).map(l -> l.substring(2, l.indexOf(" |", 2))).toList();
        check.due("the calls", String.join("\n", seen), String.join("\n", due));
    }

    private static boolean isAction(List<String> doc, String name) {
        return doc.stream().anyMatch(l -> l.startsWith("`int " + name + "(")
                && l.contains("is one action.") || l.startsWith("`int " + name + "(")
                && l.contains("This is an action"));
    }

    /** "All these are below -2000000000, and no other answer is." */
    private static void answersBelowAllOthers() {
        for (int run = 1; run <= 60; run++) {
            RandomCalls calls = new RandomCalls(run);
            GainTables table = new GainTables();
            for (int i = 0; i < 512; i++) {
                Call call = calls.next(table);
                int answer = call.on(table);
                check.holds(call + " answers " + answer, answer < -2000000000
                        == (Look.isError(answer) || answer == Look.NONE));
            }
        }
    }

    private static void itemsOfAText() {
        StringBuilder text = new StringBuilder();
        int items = 0;
        for (String line : linesFrom("### A text")) {
            Matcher m = Pattern.compile("\\| `([^`]*;)` \\|.*").matcher(line);
            if (m.matches()) {
                text.append(m.group(1));
                items++;
            }
        }
        GainTables table = new GainTables();
        check.due("items", Look.read(table, text.toString()), items);
        check.due("items in the page", items, 3);
        String[] looks = Look.all(table).split("\n");
        check.holds("the first border", looks[1].endsWith(" (400 0 50)"));
        check.holds("the second border", looks[2].endsWith(" (500 1 20)"));
        check.due("the gain", table.region(1, 0, 2), 90);
        check.due("all gains", table.account(4), 90);
    }

    private static void tableOfTests() throws IOException {
        TreeSet<String> seen = new TreeSet<>();
        for (String line : linesFrom("## Tests")) {
            Matcher m = Pattern.compile("\\| (\\w+Test) \\|.*").matcher(line);
            if (m.matches()) {
                seen.add(m.group(1) + ".java");
            }
        }
        try (Stream<Path> files = Files.list(Path.of("src/test/java"))) {
            check.due("the table of tests", seen.toString(), files
                    .map(file -> file.getFileName().toString())
                    .filter(name -> name.endsWith("Test.java"))
                    .collect(Collectors.toCollection(TreeSet::new)).toString());
        }
    }

    private static void pathsExist() throws IOException {
        Matcher m = Pattern.compile("`((?:src/|\\.\\./shared/|\\.ci/)[^`\\s]*)`").matcher(page);
        int paths = 0;
        while (m.find()) {
            Path path = Path.of(m.group(1));
            PathMatcher pattern = FileSystems.getDefault().getPathMatcher("glob:" + path);
            try (Stream<Path> beside = Files.list(path.getParent())) {
                check.holds("there is " + path, beside.anyMatch(pattern::matches));
            }
            paths++;
        }
        check.holds("the page names files", paths > 5);
        check.holds(CI + " can be run", Files.isExecutable(Path.of(CI)));
    }

    /** Runs all commands, but for .ci/run, by which this test is run. */
    private static void commands(Path place) throws IOException, InterruptedException {
        Path checkout = place.resolve("main");
        copy(Path.of("."), checkout);
        Files.createSymbolicLink(place.resolve("shared"), Path.of("../shared").toRealPath());
        List<String> commands = blocks("sh");
        check.holds("the page tells " + CI, commands.contains(CI + "\n"));
        for (int i = 0; i < commands.size(); i++) {
            if (commands.get(i).equals(CI + "\n")) {
                continue;
            }
            Path output = place.resolve("output" + i);
            Process run = new ProcessBuilder("sh", "-e", "-c", commands.get(i))
                    .directory(checkout.toFile()).redirectOutput(output.toFile())
                    .redirectError(ProcessBuilder.Redirect.INHERIT).start();
            int code = run.waitFor();
            String printed = Files.readString(output, StandardCharsets.UTF_8);
            check.due(commands.get(i) + printed + "exit code", code, 0);
            if (commands.get(i).contains("Example.java")) {
                check.due("output of the example", printed, blocks("text").get(0));
            } else {
                check.holds(commands.get(i) + " prints something", !printed.isEmpty());
            }
        }
    }

    private static void copy(Path from, Path to) throws IOException {
        List<Path> files;
        try (Stream<Path> walk = Files.walk(from)) {
            files = walk.filter(Files::isRegularFile).map(from::relativize)
                    .filter(file -> !file.startsWith(".git") && !file.startsWith("build")).toList();
        }
        for (Path file : files) {
            Files.createDirectories(to.resolve(file).getParent());
            Files.copy(from.resolve(file), to.resolve(file));
        }
    }

    private static void remove(Path place) throws IOException {
        List<Path> all;
        try (Stream<Path> walk = Files.walk(place)) {
            all = walk.sorted(Comparator.reverseOrder()).toList();
        }
        for (Path path : all) {
            Files.delete(path);
        }
    }
}
