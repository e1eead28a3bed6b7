import java.io.IOException;
import java.nio.charset.StandardCharsets;
import java.nio.file.Files;
import java.nio.file.Path;
import java.util.ArrayList;
import java.util.LinkedHashMap;
import java.util.List;
import java.util.Map;
import java.util.regex.Matcher;
import java.util.regex.Pattern;

/** README.md says of each method what ../shared/DOC.md says of it, and its example answers what it shows. */
public final class ReadmeTest {
    private static final Check CHECK = new Check("ReadmeTest");
    private static final Path README = Path.of("README.md");
    private static final Path DOCUMENT = Path.of("..", "shared", "DOC.md");
    private static final Pattern SHOWN = Pattern.compile("(.*\\S) +// (-?\\d+)\\b.*");

    public static void main(String[] args) {
        checkExample();
        if (Files.isReadable(DOCUMENT)) {
            checkMethods();
        } else {
            System.out.println(DOCUMENT + " is not there: README.md is not compared with it");
        }
        CHECK.end();
    }

    /** The example of README.md once more; each answer that a line there shows is due. */
    private static void checkExample() {
        Map<String, Long> got = new LinkedHashMap<>();
        JetWaltz waltz = new JetWaltz();
        int pump = waltz.pump(30);
        got.put("int pump = waltz.pump(30);", (long) pump);
        int jet = waltz.jet(pump, 10, 2, 0);
        got.put("int jet = waltz.jet(pump, 10, 2, 0);", (long) jet);
        int figure = waltz.figure();
        got.put("int figure = waltz.figure();", (long) figure);
        got.put("waltz.step(figure, 0, 1 << jet, 13);", (long) waltz.step(figure, 0, 1 << jet, 13));
        got.put("waltz.step(figure, 0, 1 << jet, 4);", (long) waltz.step(figure, 0, 1 << jet, 4));
        got.put("waltz.step(figure, 9, 1 << jet, 0);", (long) waltz.step(figure, 9, 1 << jet, 0));
        int call = waltz.call(figure, 0);
        got.put("int call = waltz.call(figure, 0);", (long) call);
        got.put("waltz.heightIn(jet, 4);", (long) waltz.heightIn(jet, 4));
        int cameDown = waltz.pass(4);
        got.put("int cameDown = waltz.pass(4);", (long) cameDown);
        got.put("waltz.ofJet(jet, 8);", (long) waltz.ofJet(jet, 8));
        got.put("waltz.many(6);", (long) waltz.many(6));
        got.put("waltz.open(call);", (long) waltz.open(call));
        got.put("waltz.settingFor(jet, 40);", (long) waltz.settingFor(jet, 40));
        got.put("waltz.leadFor(jet, 40);", (long) waltz.leadFor(jet, 40));
        got.put("waltz.setting(pump, 4);", (long) waltz.setting(pump, 4));
        got.put("waltz.pass(1);", (long) waltz.pass(1));
        got.put("waltz.meanHeight();", (long) waltz.meanHeight());
        CHECK.due("the example's lines with their answers", shownInExample().toString(), got.toString());
    }

    private static Map<String, Long> shownInExample() {
        Map<String, Long> shown = new LinkedHashMap<>();
        boolean isExample = false;
        for (String line : linesOf(README)) {
            if (line.startsWith("```")) {
                isExample = line.equals("```java");
            }
            Matcher matcher = SHOWN.matcher(line);
            if (isExample && matcher.matches()) {
                shown.put(matcher.group(1), Long.valueOf(matcher.group(2)));
            }
        }
        return shown;
    }

    /** The methods stand in the order of the promises, each with all that its promise says, and no more refusals. */
    private static void checkMethods() {
        Map<String, List<String>> promised = sectionsOfDocument();
        Map<String, List<String>> written = sectionsOfReadme();
        CHECK.due("the methods", written.keySet().toString(), promised.keySet().toString());
        for (Map.Entry<String, List<String>> entry : promised.entrySet()) {
            List<String> said = written.getOrDefault(entry.getKey(), List.of());
            for (String line : entry.getValue()) {
                CHECK.due(entry.getKey() + " says: " + line, said.contains(line), true);
            }
            CHECK.due(entry.getKey() + ", its items", itemsOf(said).toString(), itemsOf(entry.getValue()).toString());
        }
    }

    private static List<String> itemsOf(List<String> lines) {
        List<String> items = new ArrayList<>(lines);
        items.removeIf(line -> !line.startsWith("- ") && !line.startsWith("Returns ") && !line.startsWith("Throws "));
        return items;
    }

    /** The signature of each promise, without its exceptions, and its lines. */
    private static Map<String, List<String>> sectionsOfDocument() {
        Map<String, List<String>> sections = new LinkedHashMap<>();
        List<String> section = new ArrayList<>();
        boolean isPromise = false;
        for (String line : linesOf(DOCUMENT)) {
            String said = line;
            if (line.startsWith("## ")) {
                isPromise = line.startsWith("## Promise ");
                continue;
            }
            if (isPromise && line.startsWith("`")) {
                int end = line.indexOf("`: ");
                section = new ArrayList<>();
                sections.put(line.substring(1, end).replaceFirst(" throws .*", ""), section);
                said = line.substring(end + 3);
            }
            if (isPromise && !said.isBlank()) {
                section.add(said);
            }
        }
        return sections;
    }

    /** The same of README.md, which breaks its lines, and has its own heads for what is returned and thrown. */
    private static Map<String, List<String>> sectionsOfReadme() {
        Map<String, List<String>> sections = new LinkedHashMap<>();
        List<String> section = new ArrayList<>();
        boolean goesOn = false;
        for (String line : linesOf(README)) {
            if (line.startsWith("#")) {
                section = new ArrayList<>();
                if (line.startsWith("#### `")) {
                    sections.put(line.substring("#### `".length(), line.length() - 1), section);
                }
            } else if (goesOn && !line.isBlank() && !line.startsWith("- ")) {
                int last = section.size() - 1;
                section.set(last, section.get(last) + " " + line.strip());
            } else if (!line.isBlank()) {
                section.add(line.replaceFirst("^- Answers: ", "Returns ").replaceFirst("^- Refuses: ", "Throws "));
            }
            goesOn = !line.startsWith("#") && !line.isBlank();
        }
        return sections;
    }

    private static List<String> linesOf(Path file) {
        try {
            return Files.readAllLines(file, StandardCharsets.UTF_8);
        } catch (IOException e) {
            CHECK.due(file + " can be read", e.toString(), "");
            return List.of();
        }
    }
}
