import java.io.IOException;
import java.nio.file.Files;
import java.nio.file.Path;
import java.util.ArrayList;
import java.util.List;
import java.util.Map;
import java.util.Set;
import java.util.TreeMap;
import java.util.TreeSet;

/**
 * The sentences of the document that the tests quote. Each test says what it quotes before it asks;
 * at the end the quotes are compared with the document, so that no sentence is without a test.
 */
final class Sentences {
    private static final Path DOCUMENT = Path.of("../shared/DOC.md");
    private static final String WHAT_IT_IS = "What it is";
    private static final String FACE = "The public face";
    private static final String TERMS = "Terms";
    private static final Map<String, Set<String>> QUOTED = new TreeMap<>();

    private Sentences() {
    }

    static void whatItIs(String words) {
        quote(WHAT_IT_IS, words);
    }

    static void terms(String words) {
        quote(TERMS, words);
    }

    static void promise(int number, String words) {
        quote("Promise " + number, words);
    }

    private static void quote(String section, String words) {
        QUOTED.computeIfAbsent(section, s -> new TreeSet<>()).add(words);
        Check.about(section + ", '" + words + "': ");
    }

    static void compareWithDocument() throws IOException {
        Check.about("");
        if (!Files.exists(DOCUMENT)) {
            System.out.println("no document here to compare the quotes with");
            return;
        }
        Map<String, List<String>> clauses = new TreeMap<>();
        sections().forEach((name, body) -> clauses.put(name, split(body)));
        for (Map.Entry<String, List<String>> section : clauses.entrySet()) {
            for (String clause : section.getValue()) {
                if (!isQuoted(section.getKey(), clause)) {
                    Check.fail("no test quotes " + section.getKey() + ": " + clause);
                }
            }
        }
        for (Map.Entry<String, Set<String>> section : QUOTED.entrySet()) {
            for (String words : section.getValue()) {
                if (!isSaid(clauses.getOrDefault(section.getKey(), List.of()), words)) {
                    Check.fail("the document does not say under " + section.getKey() + ": " + words);
                }
            }
        }
    }

    private static boolean isQuoted(String section, String clause) {
        for (String words : QUOTED.getOrDefault(section, Set.of())) {
            if (clause.contains(words)) {
                return true;
            }
        }
        return false;
    }

    private static boolean isSaid(List<String> clauses, String words) {
        for (String clause : clauses) {
            if (clause.contains(words)) {
                return true;
            }
        }
        return false;
    }

    /** The lines of the class that the document shows; none if there is no document here. */
    static List<String> face() throws IOException {
        List<String> lines = new ArrayList<>();
        for (String line : sections().getOrDefault(FACE, "").split("\n")) {
            if (line.startsWith("public ") || line.startsWith("    public ")) {
                lines.add(line);
            }
        }
        return lines;
    }

    /** The sections that promise something, by their names; promises without their titles. */
    private static Map<String, String> sections() throws IOException {
        Map<String, String> sections = new TreeMap<>();
        String document = Files.exists(DOCUMENT) ? Files.readString(DOCUMENT) : "";
        for (String section : document.split("\n## ")) {
            int end = section.indexOf('\n');
            String heading = end < 0 ? section : section.substring(0, end);
            String name = heading.startsWith("Promise ") ? heading.replaceAll(":.*", "") : heading;
            if (!name.startsWith("# ") && !name.equals("Not promised")) {
                sections.put(name, section.substring(heading.length()));
            }
        }
        return sections;
    }

    /** Splits into sentences, and those at semicolons; headings and code are left out. */
    private static List<String> split(String text) {
        List<String> clauses = new ArrayList<>();
        for (String line : text.split("\n")) {
            boolean isListed = line.startsWith("- ");
            if (!isListed && !line.endsWith(".")) {
                continue;
            }
            for (String sentence : line.split("(?<=\\.) +(?=[A-Z])")) {
                for (String clause : sentence.split("; ")) {
                    clauses.add(clause);
                }
            }
        }
        return clauses;
    }
}
