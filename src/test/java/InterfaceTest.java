import java.io.IOException;
import java.nio.file.Files;
import java.nio.file.Path;
import java.util.ArrayList;
import java.util.List;
import java.util.regex.Matcher;
import java.util.regex.Pattern;

/** What the document says of the interface itself: its sections, and each promise's own line. */
public final class InterfaceTest {
    private static final Path SOURCE = Path.of("src/main/java/RiverHead.java");
    private static final Path DOCUMENT = Path.of("../shared/DOC.md");
    private static final Pattern AHEAD = Pattern.compile("(?m)^Ahead of the calls (.*) the interface says: (---- .*)\\.$");
    private static final Pattern ACT = Pattern.compile("(?m)^    public (?:int|long) (\\w+)\\(");
    private static final Pattern PROMISE = Pattern.compile("(?m)^## Promise (\\d+): (.*)\n\n`(.*?)`:");

    private static String document;
    private static String source;

    public static void main(String[] args) throws IOException {
        document = Files.readString(DOCUMENT);
        source = Files.readString(SOURCE);
        sectionsAreAhead();
        promisesAreOfTheFace();
        Due.end();
    }

    // Terms 6: "Ahead of the calls high, water, king, link, mouth, run, above, joined, source the interface says: ---- the land."
    // Terms 6: "Ahead of the calls goods, set, go, party, stop the interface says: ---- parties."
    // Terms 6: "Ahead of the calls row, as, of, strike, mean, fits, where, count, same the interface says: ---- rows."
    // Terms 6: "Ahead of the calls feed, text, wipe, why, price, path, pass the interface says: ---- texts, kings."
    // Terms 6: "Ahead of the calls map, slips, copied, guesses, shore the interface says: ---- maps."
    // Terms 6: "Ahead of the calls claim, call, fall, next the interface says: ---- claims."
    // Terms 6: "Ahead of the calls plan, judge, beside the interface says: ---- plans."
    // Terms 6: "Ahead of the calls tick, book, check, known the interface says: ---- days, the book."
    // Terms 6: "Ahead of the calls sheet, write, copy the interface says: ---- sheets."
    // Terms 6: "Ahead of the calls image, undo, tear, look, status the interface says: ---- images."
    private static void sectionsAreAhead() {
        Matcher told = AHEAD.matcher(document);
        int sections = 0;
        int acts = 0;
        while (told.find()) {
            sections++;
            List<String> due = List.of(told.group(1).replace("`", "").split(", "));
            acts += due.size();
            Due.due(told.group(2) + " is ahead of " + due, actsBehind(told.group(2)).equals(due) ? 1 : 0, 1);
        }
        Due.due("sections of the interface", sections, 10);
        Due.due("acts of all sections", acts, 54);
    }

    /** The acts between a remark and the next one of its kind, in order. */
    private static List<String> actsBehind(String remark) {
        List<String> acts = new ArrayList<>();
        int from = source.indexOf("\n    // " + remark + "\n");
        if (from < 0) {
            return acts;
        }
        int to = source.indexOf("\n    // ---- ", from + 1);
        Matcher act = ACT.matcher(source.substring(from, to < 0 ? source.length() : to));
        while (act.find()) {
            acts.add(act.group(1));
        }
        return acts;
    }

    // The public face: "public final class RiverHead { public RiverHead();"
    private static void promisesAreOfTheFace() {
        // the line of each promise is that of the face, and stands in the source with the same names
        Matcher promise = PROMISE.matcher(document);
        int n = 0;
        while (promise.find()) {
            n++;
            Due.promise(n);
            String line = "    public " + promise.group(3);
            Due.due("number of " + promise.group(2), Integer.parseInt(promise.group(1)), n);
            Due.due(line + " is in the face", document.contains("\n" + line + ";\n") ? 1 : 0, 1);
            Due.due(line + " is in the source", source.contains("\n" + line + " {\n") ? 1 : 0, 1);
        }
        Due.due("promises with a line of the face", n, 55);
    }
}
