import java.io.IOException;
import java.nio.file.Files;
import java.nio.file.Path;
import java.util.ArrayList;
import java.util.List;
import java.util.Map;
import java.util.Set;
import java.util.TreeMap;
import java.util.TreeSet;

/**
 * The sentences of the document that the tests quote. Each test says what it quotes before it asks;
 * at the end the quotes are compared with the document, so that no sentence is without a test.
 */
final class Sentences {
    private static final Path DOCUMENT = Path.of("../shared/DOC.md");
    private static final String TERMS = "Terms";
    private static final String TERMS_BEGIN = "There are f steps";
    private static final String TERMS_END = "The constants:";
    private static final Map<String, Set<String>> QUOTED = new TreeMap<>();

    private Sentences() {
    }

    static void terms(String words) {
        quote(TERMS, words);
    }

    static void promise(int number, String words) {
        quote("Promise " + number, words);
    }

    private static void quote(String section, String words) {
        QUOTED.computeIfAbsent(section, s -> new TreeSet<>()).add(words);
        Check.about(section + ", '" + words + "': ");
    }

    static void compareWithDocument() throws IOException {
        Check.about("");
        if (!Files.exists(DOCUMENT)) {
            System.out.println("no document here to compare the quotes with");
            return;
        }
        Map<String, List<String>> clauses = clausesOf(Files.readString(DOCUMENT));
        for (Map.Entry<String, List<String>> section : clauses.entrySet()) {
            for (String clause : section.getValue()) {
                if (!isQuoted(section.getKey(), clause)) {
                    Check.fail("no test quotes " + section.getKey() + ": " + clause);
                }
            }
        }
        for (Map.Entry<String, Set<String>> section : QUOTED.entrySet()) {
            for (String words : section.getValue()) {
                if (!isSaid(clauses.getOrDefault(section.getKey(), List.of()), words)) {
                    Check.fail("the document does not say under " + section.getKey() + ": " + words);
                }
            }
        }
    }

    private static boolean isQuoted(String section, String clause) {
        for (String words : QUOTED.getOrDefault(section, Set.of())) {
            if (clause.contains(words)) {
                return true;
            }
        }
        return false;
    }

    private static boolean isSaid(List<String> clauses, String words) {
        for (String clause : clauses) {
            if (clause.contains(words)) {
                return true;
            }
        }
        return false;
    }

    private static Map<String, List<String>> clausesOf(String document) {
        Map<String, List<String>> clauses = new TreeMap<>();
        int begin = Math.max(0, document.indexOf(TERMS_BEGIN));
        int end = document.indexOf(TERMS_END);
        clauses.put(TERMS, split(document.substring(begin, end < begin ? document.length() : end)));
        for (String section : document.split("\n## ")) {
            if (section.startsWith("Promise ")) {
                String name = section.substring(0, section.indexOf(':'));
                int body = section.indexOf('\n');
                clauses.put(name, split(body < 0 ? "" : section.substring(body)));
            }
        }
        return clauses;
    }

    /** Splits into sentences, and those at semicolons; headings are left out. */
    private static List<String> split(String text) {
        List<String> clauses = new ArrayList<>();
        for (String line : text.split("\n")) {
            boolean isListed = line.startsWith("- ");
            if (!isListed && !line.endsWith(".")) {
                continue;
            }
            for (String sentence : line.split("(?<=\\.) +(?=[A-Z])")) {
                for (String clause : sentence.split("; ")) {
                    clauses.add(clause);
                }
            }
        }
        return clauses;
    }
}
