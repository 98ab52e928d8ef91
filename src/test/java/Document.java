import java.io.IOException;
import java.nio.file.Files;
import java.nio.file.Path;
import java.util.ArrayList;
import java.util.HashMap;
import java.util.LinkedHashMap;
import java.util.List;
import java.util.Map;

/** The sections of ../shared/DOC.md, each in clauses, and which of them have tests. */
final class Document {
    private static final Path PLACE = Path.of("../shared/DOC.md");
    private static final Map<String, List<String>> CLAUSES = read();
    private static final Map<String, List<String>> TESTED = new HashMap<>();

    private Document() {
    }

    private static Map<String, List<String>> read() {
        Map<String, List<String>> sections = new LinkedHashMap<>();
        String section = "";
        for (String line : lines()) {
            if (line.startsWith("#")) {
                section = line.replaceAll("^#+ |:.*", "");
                sections.put(section, new ArrayList<>());
            } else if (!line.isEmpty() && sections.containsKey(section)) {
                sections.get(section).addAll(List.of(line.split("(?<=[.;]) ")));
            }
        }
        return sections;
    }

    /** Without the document the answers are still tested, but no place is looked up. */
    private static List<String> lines() {
        try {
            return Files.readAllLines(PLACE);
        } catch (IOException missing) {
            System.out.println(PLACE + " cannot be read: the places of sentences are not looked up");
            return List.of();
        }
    }

    static boolean isThere() {
        return !CLAUSES.isEmpty();
    }

    static String wordsOf(String section) {
        return String.join(" ", CLAUSES.getOrDefault(section, List.of()));
    }

    /** A test names its sentence: it must stand there, and have no other test. */
    static void tested(String section, String words) {
        Due.holds("the document says under " + section + ": " + words,
            !isThere() || wordsOf(section).contains(words));
        List<String> told = TESTED.computeIfAbsent(section, key -> new ArrayList<>());
        Due.holds("one test alone is for " + section + ": " + words, !told.contains(words));
        told.add(words);
    }

    /** Every clause of the section has a test, but for those that name no boundary. */
    static void allTested(String section, List<String> withoutBoundary) {
        List<String> clauses = CLAUSES.getOrDefault(section, List.of());
        Due.holds("there is a section " + section, !isThere() || !clauses.isEmpty());
        for (String clause : clauses) {
            boolean isTested = isAmong(clause, TESTED.getOrDefault(section, List.of()));
            Due.holds("there is a test for " + section + ": " + clause, isTested || withoutBoundary.contains(clause));
        }
    }

    private static boolean isAmong(String clause, List<String> told) {
        for (String words : told) {
            if (clause.contains(words) || words.contains(clause)) {
                return true;
            }
        }
        return false;
    }
}
