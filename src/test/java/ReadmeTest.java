import java.io.IOException;
import java.nio.file.Files;
import java.nio.file.Path;
import java.util.ArrayList;
import java.util.List;
import java.util.Set;
import java.util.TreeSet;
import java.util.regex.Matcher;
import java.util.regex.Pattern;

/** README.md: its example answers as it says, it names all acts, findings and tests, and its commands are those of .ci/run. */
public final class ReadmeTest {
    private static final Pattern CALL = Pattern.compile("x\\.(\\w+\\(.*?\\)); *// (-?\\d+)(:.*)?");
    private static final Pattern FINDING = Pattern.compile("(-10000000\\d\\d) ([A-Z]+)[,.]");
    private static final Pattern ACT = Pattern.compile("(?m)^    public (?:int|long) (\\w+)\\(");

    private static String readme;
    private static String document;

    public static void main(String[] args) throws IOException {
        readme = Files.readString(Path.of("README.md"));
        document = Files.readString(Path.of("../shared/DOC.md"));
        exampleAnswers();
        actsAreNamed();
        findingsAreNamed();
        testsAreNamed();
        commandsAreThoseOfCi();
        Due.end();
    }

    /** The lines of all blocks of a kind, in order. */
    private static List<String> blocks(String kind) {
        List<String> lines = new ArrayList<>();
        Matcher block = Pattern.compile("(?s)```" + kind + "\n(.*?)```").matcher(readme);
        while (block.find()) {
            lines.addAll(block.group(1).lines().toList());
        }
        return lines;
    }

    private static void exampleAnswers() {
        List<String> lines = blocks("java");
        Due.due("the example begins with a new object", lines.get(0).equals("RiverHead x = new RiverHead();") ? 1 : 0, 1);
        RiverHead x = new RiverHead();
        for (String line : lines.subList(1, lines.size())) {
            Matcher call = CALL.matcher(line);
            if (call.matches()) {
                Due.due(call.group(1), Edge.ask(x, call.group(1)), Long.parseLong(call.group(2)));
            } else {
                Due.fail("no call with its answer: " + line);
            }
        }
    }

    private static void actsAreNamed() {
        Matcher act = ACT.matcher(document);
        int n = 0;
        while (act.find()) {
            n++;
            boolean named = Pattern.compile("(?m)^\\| [^|]*`" + act.group(1) + "`[^|]* \\|").matcher(readme).find();
            Due.due(act.group(1) + " is in the table of acts", named ? 1 : 0, 1);
        }
        Due.due("acts", n, 54);
    }

    private static void findingsAreNamed() {
        Matcher finding = FINDING.matcher(document.substring(0, document.indexOf("Each act tells its findings")));
        int n = 0;
        while (finding.find()) {
            n++;
            String row = "\n| " + finding.group(1) + " | " + finding.group(2) + " | ";
            Due.due(row.trim() + " is in the table of findings", readme.contains(row) ? 1 : 0, 1);
        }
        Due.due("findings", n, 7);
    }

    private static void testsAreNamed() throws IOException {
        try (var files = Files.newDirectoryStream(Path.of("src/test/java"), "*Test.java")) {
            for (Path file : files) {
                String name = file.getFileName().toString().replace(".java", "");
                Due.due(name + " is named", readme.contains("`" + name + "`") ? 1 : 0, 1);
            }
        }
    }

    private static void commandsAreThoseOfCi() throws IOException {
        Set<String> commands = new TreeSet<>();
        for (String line : Files.readAllLines(Path.of(".ci/run"))) {
            commands.add(line.trim().replaceFirst(" \\|\\| (exit|return) 1$", ""));
        }
        int n = 0;
        for (String line : blocks("sh")) {
            boolean chooses = line.equals(".ci/run") || line.matches("name=\\w+");
            n += chooses ? 0 : 1;
            Due.due("\"" + line + "\" is of .ci/run", chooses || commands.contains(line) ? 1 : 0, 1);
        }
        Due.due("commands", n, 5);
        Due.due(".ci/run can be run", Files.isExecutable(Path.of(".ci/run")) ? 1 : 0, 1);
    }
}
