import java.io.IOException;
import java.nio.file.DirectoryStream;
import java.nio.file.Files;
import java.nio.file.Path;
import java.util.ArrayList;
import java.util.Arrays;
import java.util.HashMap;
import java.util.List;
import java.util.Map;
import java.util.TreeMap;
import java.util.regex.Matcher;
import java.util.regex.Pattern;

/**
 * The remarks of the tests that go by sentences: each quotes words that stand in the document where it says, each stands
 * ahead of a test that is run, and no word of a promise or of the terms is left that none of them quotes.
 */
public final class RemarksTest {
    private static final Path DOCUMENT = Path.of("../shared/DOC.md");
    private static final Path TESTS = Path.of("src/test/java");
    private static final String FILES = "{*EdgesTest,*SentencesTest,InterfaceTest}.java";
    private static final Pattern REMARK = Pattern.compile("// (Promise \\d+|Terms \\d+|What it is|The public face): \"(.*)\"");
    private static final Pattern TEST = Pattern.compile(" {4}private static void (\\w+)\\(\\) \\{");
    private static final int PROMISES = 55;

    /** What the document says, by "Promise 7", "Terms 2", or the head of another section. */
    private static final Map<String, String> SAID = new TreeMap<>();
    private static final Map<String, List<String>> QUOTED = new HashMap<>();

    public static void main(String[] args) throws IOException {
        readDocument(Files.readString(DOCUMENT));
        try (DirectoryStream<Path> files = Files.newDirectoryStream(TESTS, FILES)) {
            for (Path file : files) {
                readTests(file);
            }
        }
        for (int number = 1; number <= PROMISES; number++) {
            isQuoted("Promise " + number);
        }
        for (int number = 0; number <= 6; number++) {
            isQuoted("Terms " + number);
        }
        Due.end();
    }

    private static String plain(String text) {
        return text.replaceAll("```(text|java)", " ").replace("`", "").replaceAll("\\s+", " ").trim();
    }

    private static void readDocument(String document) {
        String[] parts = document.split("(?m)^## ");
        for (String part : parts) {
            String head = part.lines().findFirst().orElse("");
            if (head.equals("Terms")) {
                readTerms(part.substring(head.length()));
            } else if (head.startsWith("Promise ")) {
                String said = part.substring(head.length()).replaceFirst("`[^`]*`:", "");
                SAID.put(head.substring(0, head.indexOf(':')), plain(said));
            } else {
                SAID.put(head, plain(part.substring(head.length())));
            }
        }
        Due.due("promises of the document", SAID.keySet().stream().filter(s -> s.startsWith("Promise")).count(), PROMISES);
    }

    private static void readTerms(String terms) {
        String[] sections = terms.split("(?m)^\\d\\. ");
        Due.due("sections of the terms", sections.length, 7);
        for (int i = 0; i < sections.length; i++) {
            SAID.put("Terms " + i, plain(sections[i]));
        }
    }

    private static void readTests(Path file) throws IOException {
        List<String> lines = Files.readAllLines(file);
        boolean remarked = false;
        for (String line : lines) {
            Matcher remark = REMARK.matcher(line.trim());
            Matcher test = TEST.matcher(line);
            if (remark.matches()) {
                String where = remark.group(1);
                boolean stands = SAID.getOrDefault(where, "").contains(remark.group(2));
                Due.due(file.getFileName() + ": " + where + " says \"" + remark.group(2) + "\"", stands ? 1 : 0, 1);
                QUOTED.computeIfAbsent(where, w -> new ArrayList<>()).add(remark.group(2));
                remarked = true;
            } else if (test.matches()) {
                String name = test.group(1);
                Due.due(file.getFileName() + ": " + name + " has a remark", remarked || name.equals("richObject") ? 1 : 0, 1);
                Due.due(file.getFileName() + ": " + name + " is run", lines.contains("        " + name + "();") ? 1 : 0, 1);
                remarked = false;
            }
        }
    }

    /** A sentence may be quoted in parts, by tests of each; what lies between the quotes has no letter and no digit. */
    private static void isQuoted(String where) {
        String said = SAID.getOrDefault(where, "");
        Due.due(where + " says something", said.isEmpty() ? 0 : 1, 1);
        boolean[] seen = new boolean[said.length()];
        for (String quote : QUOTED.getOrDefault(where, List.of())) {
            for (int at = said.indexOf(quote); at >= 0; at = said.indexOf(quote, at + 1)) {
                Arrays.fill(seen, at, at + quote.length(), true);
            }
        }
        StringBuilder left = new StringBuilder();
        for (int i = 0; i < seen.length; i++) {
            left.append(seen[i] ? ' ' : said.charAt(i));
        }
        for (String words : left.toString().split(" {2,}")) {
            boolean says = words.chars().anyMatch(Character::isLetterOrDigit);
            Due.due(where + ": a test quotes \"" + words.trim() + "\"", says ? 0 : 1, 1);
        }
    }
}
