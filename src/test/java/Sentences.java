import java.io.IOException;
import java.nio.charset.StandardCharsets;
import java.nio.file.Files;
import java.nio.file.Path;
import java.util.ArrayList;
import java.util.LinkedHashMap;
import java.util.LinkedHashSet;
import java.util.List;
import java.util.Map;
import java.util.Set;
import java.util.function.Consumer;
import java.util.function.Supplier;

/** Checks that name the sentence of the document that they hold the class to. */
final class Sentences {
    static final String HEAD = "What it is";
    static final String TERMS = "Terms";

    private static final Path DOCUMENT = Path.of("..", "shared", "DOC.md");

    private final Check check = new Check("SentencesTest");
    private final Map<String, Set<String>> named = new LinkedHashMap<>();
    private String sentence = "";

    /** All checks from here on, till the next of these calls, are of these sentences of that section. */
    void says(String section, String... texts) {
        Set<String> known = named.computeIfAbsent(section, key -> new LinkedHashSet<>());
        known.addAll(List.of(texts));
        sentence = "[" + section + ": " + String.join(" | ", texts) + "] ";
    }

    void due(String what, long got, long want) {
        check.due(sentence + what, got, want);
    }

    void due(String what, double got, double want) {
        check.due(sentence + what, got, want);
    }

    void due(String what, boolean got, boolean want) {
        check.due(sentence + what, got, want);
    }

    void due(String what, String got, String want) {
        check.due(sentence + what, got, want);
    }

    /** The call throws exactly this, and what it was made on goes on like one that it was not made on. */
    void refused(String what, Supplier<JetWaltz> made, Class<?> want, Consumer<JetWaltz> call) {
        JetWaltz one = made.get();
        JetWaltz other = made.get();
        String got = "nothing";
        try {
            call.accept(one);
        } catch (RuntimeException e) {
            got = Check.nameOf(e);
        }
        due(what + " throws", got, want.getName());
        due(what + " changes nothing", Twins.firstDifference(one, other), "");
    }

    void end() {
        compareWithDocument();
        check.end();
    }

    /** Each text that is named stands in its section, and nothing stands there that no test names. */
    private void compareWithDocument() {
        if (!Files.isReadable(DOCUMENT)) {
            System.out.println(DOCUMENT + " is not there: the sentences are not compared with it");
            return;
        }
        Map<String, String> sections = sectionsOfDocument();
        for (String section : named.keySet()) {
            check.due("section " + section + " is there", sections.containsKey(section), true);
        }
        for (Map.Entry<String, String> entry : sections.entrySet()) {
            compare(entry.getKey(), entry.getValue(), named.getOrDefault(entry.getKey(), Set.of()));
        }
    }

    private void compare(String section, String text, Set<String> texts) {
        char[] left = text.toCharArray();
        for (String one : texts) {
            int at = text.indexOf(one);
            check.due("[" + section + "] has: " + one, at >= 0, true);
            while (at >= 0) {
                for (int k = at; k < at + one.length(); k++) {
                    left[k] = left[k] == '\n' ? '\n' : ' ';
                }
                at = text.indexOf(one, at + 1);
            }
        }
        for (String line : new String(left).split("\n")) {
            boolean isNamed = line.chars().noneMatch(Character::isLetterOrDigit);
            check.due("[" + section + "] named by a test", isNamed ? "" : line.strip(), "");
        }
    }

    private static Map<String, String> sectionsOfDocument() {
        Map<String, String> sections = new LinkedHashMap<>();
        String section = "";
        for (String line : linesOfDocument()) {
            if (line.startsWith("## ")) {
                section = sectionOf(line.substring(3));
            } else if (!section.isEmpty() && saysSomething(line)) {
                String text = line.startsWith("`") ? line.substring(line.indexOf("`: ") + 3) : line;
                sections.merge(section, text, (before, more) -> before + "\n" + more);
            }
        }
        return sections;
    }

    private static List<String> linesOfDocument() {
        try {
            return Files.readAllLines(DOCUMENT, StandardCharsets.UTF_8);
        } catch (IOException e) {
            System.out.println(DOCUMENT + " can't be read: " + e);
            return new ArrayList<>();
        }
    }

    /** The number of a promise, the name of the sections before them, or nothing for the others. */
    private static String sectionOf(String title) {
        if (title.startsWith("Promise ")) {
            return title.substring("Promise ".length(), title.indexOf(':'));
        }
        return title.equals(HEAD) || title.equals(TERMS) ? title : "";
    }

    /** Not a head, the edge of a table, what the document is about, or how its calls are grouped. */
    private static boolean saysSomething(String line) {
        boolean isHead = line.startsWith("== ") || line.startsWith("```");
        boolean isAbout = line.equals("Fountains that dance.") || line.startsWith("Its calls: ");
        boolean isGroup = line.startsWith("Ahead of the calls ") && !line.contains("(");
        return !line.isBlank() && !isHead && !isAbout && !isGroup;
    }
}
