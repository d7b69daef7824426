import java.io.IOException;
import java.nio.file.DirectoryStream;
import java.nio.file.Files;
import java.nio.file.Path;
import java.util.ArrayList;
import java.util.HashMap;
import java.util.List;
import java.util.Map;
import java.util.TreeMap;
import java.util.regex.Matcher;
import java.util.regex.Pattern;

/**
 * The remarks of the tests of boundary cases: each quotes words that stand in the document where it says, each stands
 * ahead of a test that is run, and each sentence of a promise that names a finding is quoted by one.
 */
public final class RemarksTest {
    private static final Path DOCUMENT = Path.of("../shared/DOC.md");
    private static final Path TESTS = Path.of("src/test/java");
    private static final Pattern REMARK = Pattern.compile("// (Promise|Terms) (\\d+): \"(.*)\"");
    private static final Pattern TEST = Pattern.compile(" {4}private static void (\\w+)\\(\\) \\{");
    private static final Pattern FINDING = Pattern.compile("\\b(BEYOND|FULL|KIND|NONE|STATE|MISSING|SIZE)\\b");
    private static final int PROMISES = 55;

    /** What the document says, by "Promise 7" or "Terms 2". */
    private static final Map<String, String> SAID = new TreeMap<>();
    private static final Map<String, List<String>> QUOTED = new HashMap<>();

    public static void main(String[] args) throws IOException {
        readDocument(Files.readString(DOCUMENT));
        try (DirectoryStream<Path> files = Files.newDirectoryStream(TESTS, "*EdgesTest.java")) {
            for (Path file : files) {
                readTests(file);
            }
        }
        for (int number = 1; number <= PROMISES; number++) {
            promiseIsTested("Promise " + number);
        }
        for (int number = 0; number <= 6; number++) {
            Due.due("Terms " + number + " is quoted", QUOTED.containsKey("Terms " + number) ? 1 : 0, 1);
        }
        Due.end();
    }

    private static String plain(String text) {
        return text.replaceAll("```text", " ").replace("`", "").replaceAll("\\s+", " ").trim();
    }

    private static void readDocument(String document) {
        String[] parts = document.split("(?m)^## ");
        for (String part : parts) {
            String head = part.lines().findFirst().orElse("");
            if (head.equals("Terms")) {
                readTerms(part.substring(head.length()));
            } else if (head.startsWith("Promise ")) {
                String said = part.substring(head.length()).replaceFirst("`[^`]*`:", "");
                SAID.put(head.substring(0, head.indexOf(':')), plain(said));
            }
        }
        Due.due("promises of the document", SAID.keySet().stream().filter(s -> s.startsWith("Promise")).count(), PROMISES);
    }

    private static void readTerms(String terms) {
        String[] sections = terms.split("(?m)^\\d\\. ");
        Due.due("sections of the terms", sections.length, 7);
        for (int i = 0; i < sections.length; i++) {
            SAID.put("Terms " + i, plain(sections[i]));
        }
    }

    private static void readTests(Path file) throws IOException {
        List<String> lines = Files.readAllLines(file);
        boolean remarked = false;
        for (String line : lines) {
            Matcher remark = REMARK.matcher(line.trim());
            Matcher test = TEST.matcher(line);
            if (remark.matches()) {
                String where = remark.group(1) + " " + remark.group(2);
                boolean stands = SAID.getOrDefault(where, "").contains(remark.group(3));
                Due.due(file.getFileName() + ": " + where + " says \"" + remark.group(3) + "\"", stands ? 1 : 0, 1);
                QUOTED.computeIfAbsent(where, w -> new ArrayList<>()).add(remark.group(3));
                remarked = true;
            } else if (test.matches()) {
                String name = test.group(1);
                Due.due(file.getFileName() + ": " + name + " has a remark", remarked || name.equals("richObject") ? 1 : 0, 1);
                Due.due(file.getFileName() + ": " + name + " is run", lines.contains("        " + name + "();") ? 1 : 0, 1);
                remarked = false;
            }
        }
    }

    private static void promiseIsTested(String promise) {
        List<String> quotes = QUOTED.getOrDefault(promise, List.of());
        Due.due(promise + " is quoted", quotes.isEmpty() ? 0 : 1, 1);
        for (String sentence : SAID.getOrDefault(promise, "").split("(?<=\\.) ")) {
            if (FINDING.matcher(sentence).find()) {
                boolean quoted = quotes.stream().anyMatch(quote -> quote.contains(sentence) || coveredBy(quotes, sentence));
                Due.due(promise + ": a test quotes \"" + sentence + "\"", quoted ? 1 : 0, 1);
            }
        }
    }

    /** A sentence of several cases may be quoted in parts, by tests of each: all its words are in one part or another. */
    private static boolean coveredBy(List<String> quotes, String sentence) {
        boolean[] seen = new boolean[sentence.length()];
        for (String quote : quotes) {
            int at = sentence.indexOf(quote);
            for (int i = Math.max(at, 0); at >= 0 && i < at + quote.length(); i++) {
                seen[i] = true;
            }
        }
        for (int i = 0; i < seen.length; i++) {
            if (!seen[i] && Character.isLetterOrDigit(sentence.charAt(i))) {
                return false;
            }
        }
        return true;
    }
}
