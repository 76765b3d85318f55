import java.io.IOException;
import java.nio.file.Files;
import java.nio.file.Path;
import java.util.ArrayList;
import java.util.LinkedHashMap;
import java.util.List;
import java.util.Map;

/** The sentences of ../shared/DOC.md, and those that tests have named: so that none stays without a test. */
final class Sentences {
    private static final String[] TERMS = {"Loop", "Stations", "Parcels", "Ticks", "Waves", "Trucks and seals",
        "Exceptions", "Clarifications"};
    private static final int PROMISES = 37;
    private static final Map<String, List<String>> NAMED = new LinkedHashMap<>();

    private Sentences() {
    }

    static void name(String section, String sentence) {
        List<String> named = NAMED.computeIfAbsent(section, key -> new ArrayList<>());
        if (!named.contains(sentence)) {
            named.add(sentence);
        }
    }

    /** Each sentence that is named stands in the document, and each one with a boundary is named. */
    static void check() throws IOException {
        Map<String, List<String>> document = read();
        for (Map.Entry<String, List<String>> entry : NAMED.entrySet()) {
            String text = String.join(" ", document.getOrDefault(entry.getKey(), List.of()));
            for (String sentence : entry.getValue()) {
                Checks.due(entry.getKey() + " says: " + sentence, text.contains(sentence), true);
            }
        }
        for (String section : document.keySet()) {
            for (String sentence : document.get(section)) {
                if (List.of(TERMS).contains(section) || namesBoundary(sentence)) {
                    Checks.due(section + " has a test of: " + sentence, isNamed(section, sentence), true);
                }
            }
        }
        for (int promise = 1; promise <= PROMISES; promise++) {
            Checks.due("Promise " + promise + " has a test", NAMED.containsKey("Promise " + promise), true);
        }
    }

    private static boolean namesBoundary(String sentence) {
        return sentence.startsWith("Throws ") || sentence.matches("- .*\\d+ to \\d+");
    }

    private static boolean isNamed(String section, String sentence) {
        for (String named : NAMED.getOrDefault(section, List.of())) {
            if (sentence.contains(named)) {
                return true;
            }
        }
        return false;
    }

    private static Map<String, List<String>> read() throws IOException {
        Map<String, List<String>> document = new LinkedHashMap<>();
        String section = "";
        for (String block : Files.readString(Path.of("../shared/DOC.md")).split("\n\n")) {
            String flat = block.strip().replaceAll("\\s+", " ");
            if (flat.startsWith("## ")) {
                section = flat.substring(3).split(":")[0];
            } else if (section.startsWith("Promise ")) {
                List<String> sentences = document.computeIfAbsent(section, key -> new ArrayList<>());
                // A list of arguments has one line for each.
                sentences.addAll(block.startsWith("- ") ? List.of(block.strip().split("\n")) : List.of(flat));
            } else if (section.equals("Terms")) {
                readTerms(document, flat);
            } else {
                document.computeIfAbsent(section, key -> new ArrayList<>()).add(flat);
            }
        }
        return document;
    }

    private static void readTerms(Map<String, List<String>> document, String paragraph) {
        for (String term : TERMS) {
            if (paragraph.startsWith(term + ". ")) {
                document.put(term, List.of(paragraph.substring(term.length() + 2).split("(?<=[.]) (?=[A-Z])")));
                return;
            }
        }
        document.computeIfAbsent("Terms", key -> new ArrayList<>()).add(paragraph);
    }
}
