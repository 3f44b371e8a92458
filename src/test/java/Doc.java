import java.io.IOException;
import java.nio.charset.StandardCharsets;
import java.nio.file.Files;
import java.nio.file.Path;
import java.util.ArrayList;
import java.util.LinkedHashMap;
import java.util.List;
import java.util.Map;

/**
 * The introduction, the terms and the promises of ../shared/DOC.md, and which of their words tests
 * have quoted. Left out is what says nothing that a call could show: headings, signatures and the
 * lines that tell under which heading a call stands (FaceTest has them), and what is not promised.
 */
final class Doc {
    static final String INTRODUCTION = "What it is";
    static final String TERMS = "Terms";
    static final String HEADING_OF_CALLS = "Ahead of the calls ";
    private static final Path PLACE = Path.of("../shared/DOC.md");
    private static final List<String> TITLES = List.of("Axes, borders, regions", "Point, zones",
            "Moves, trail");

    private final Map<String, String> sections = new LinkedHashMap<>();
    private final Map<String, boolean[]> quoted = new LinkedHashMap<>();

    Doc() {
        String section = null;
        for (String line : lines()) {
            if (line.startsWith("## ")) {
                section = sectionOf(line);
            } else if (section != null) {
                sections.merge(section, said(section, line), (a, b) -> a + " " + b);
            }
        }
        sections.replaceAll((name, text) -> text.replaceAll("\\s+", " ").trim());
        sections.forEach((name, text) -> quoted.put(name, new boolean[text.length()]));
    }

    static List<String> lines() {
        try {
            return Files.readAllLines(PLACE, StandardCharsets.UTF_8);
        } catch (IOException unread) {
            throw new IllegalStateException("the document cannot be read", unread);
        }
    }

    private static String sectionOf(String heading) {
        if (heading.equals("## " + TERMS) || heading.equals("## " + INTRODUCTION)) {
            return heading.substring(3);
        }
        return heading.startsWith("## Promise ") ? heading.substring(3, heading.indexOf(':')) : null;
    }

    private static String said(String section, String line) {
        if (line.startsWith("### ") || line.startsWith("```") || TITLES.contains(line)
                || line.startsWith(HEADING_OF_CALLS)) {
            return "";
        }
        boolean signature = section.startsWith("Promise ") && line.startsWith("`");
        return signature ? line.substring(line.indexOf("`: ") + 3) : line;
    }

    /** Notes that a test holds to these words, and answers what is wrong with the quote, or "". */
    String quote(String section, String words) {
        String text = sections.get(section);
        int start = text == null ? -1 : text.indexOf(words);
        if (start < 0) {
            return section + " does not say: " + words;
        }
        if (text.indexOf(words, start + 1) >= 0) {
            return section + " says more than once: " + words;
        }
        for (int i = start; i < start + words.length(); i++) {
            quoted.get(section)[i] = true;
        }
        return "";
    }

    int promises() {
        return (int) sections.keySet().stream().filter(s -> s.startsWith("Promise ")).count();
    }

    /** The stretches of words that no test has quoted. */
    List<String> unquoted() {
        List<String> open = new ArrayList<>();
        sections.forEach((section, text) -> {
            StringBuilder stretch = new StringBuilder();
            for (int i = 0; i <= text.length(); i++) {
                if (i < text.length() && !quoted.get(section)[i]) {
                    stretch.append(text.charAt(i));
                } else {
                    if (stretch.toString().matches(".*\\w.*")) {
                        open.add(section + ": " + stretch);
                    }
                    stretch.setLength(0);
                }
            }
        });
        return open;
    }
}
