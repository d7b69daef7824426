import java.io.IOException;
import java.lang.reflect.Modifier;
import java.nio.file.Files;
import java.nio.file.Path;
import java.util.ArrayList;
import java.util.HashMap;
import java.util.List;
import java.util.Map;
import java.util.Set;
import java.util.TreeSet;
import java.util.regex.Matcher;
import java.util.regex.Pattern;

/** The rules of LANGUAGE.md that can be seen by reading the source or asking the class. */
public final class LanguageTest {
    private static final Path SOURCE = Path.of("src/main/java/RiverHead.java");
    private static final int FACE = 55;
    private static final String[] BANNED = {
        "throw", "try", "catch", "synchronized", "assert", "import", "package", "Exact", "->", "::", "System\\.(?!arraycopy)",
        "Math\\.(?!abs|max|min)", "\\bnew \\w+\\(\\) \\{", "hashCode", "protected", "NaN", "float", "double", "Random"};

    /** The names that a method's own lines call, and the names of all methods. */
    private static final Map<String, Set<String>> CALLS = new HashMap<>();
    private static final Set<String> METHODS = new TreeSet<>();

    public static void main(String[] args) throws IOException {
        String source = Files.readString(SOURCE);
        String code = source.replaceAll("(?s)/\\*.*?\\*/", "").replaceAll("//[^\n]*", "");
        for (String banned : BANNED) {
            boolean found = Pattern.compile(Character.isLetter(banned.charAt(0)) ? "\\b" + banned : banned).matcher(code).find();
            Due.due("the source has " + banned, found ? 1 : 0, 0);
        }
        Due.due("all signs are ASCII", source.chars().allMatch(c -> c < 128) ? 1 : 0, 1);
        methods(code);
        callsAreShallow();
        face();
        faceAsTold();
        Due.end();
    }

    /** "The public face": each line of the document's class is there, with the same types. */
    private static void faceAsTold() throws IOException {
        String document = Files.readString(Path.of("../shared/DOC.md"));
        Matcher line = Pattern.compile("(?m)^    public (int|long) (\\w+)\\((.*)\\);$").matcher(document);
        int n = 0;
        while (line.find()) {
            n++;
            String told = line.group(1) + " " + line.group(2) + "(" + line.group(3).replaceAll(" \\w+(?=,|$)", "") + ")";
            int found = 0;
            for (var method : RiverHead.class.getDeclaredMethods()) {
                List<String> types = new ArrayList<>();
                for (Class<?> type : method.getParameterTypes()) {
                    types.add(type.getName());
                }
                String is = method.getReturnType() + " " + method.getName() + "(" + String.join(", ", types) + ")";
                found += is.equals(told) && Modifier.isPublic(method.getModifiers()) ? 1 : 0;
            }
            Due.due(told + " is in the face", found, 1);
        }
        Due.due("acts of the document's face", n, FACE - 1);
    }

    private static void methods(String code) {
        Matcher head = Pattern.compile("(?m)^( {4}| {8})(?:[\\w\\[\\]]+ )*(\\w+)\\(([^)]*)\\) \\{$").matcher(code);
        int n = 0;
        while (head.find()) {
            if (head.group(2).equals("if") || head.group(2).equals("for") || head.group(2).equals("switch")) {
                continue;
            }
            n++;
            METHODS.add(head.group(2));
            int end = code.indexOf("\n" + head.group(1) + "}\n", head.end());
            long lines = code.substring(head.start(), end).lines().count();
            Due.due(head.group(2) + " is short", lines <= 60 ? 1 : 0, 1);
            Due.due(head.group(2) + " has few parameters", head.group(3).split(",").length <= 7 ? 1 : 0, 1);
            Matcher call = Pattern.compile("(\\w+)\\(").matcher(code.substring(head.end(), end));
            while (call.find()) {
                CALLS.computeIfAbsent(head.group(2), name -> new TreeSet<>()).add(call.group(1));
            }
        }
        Due.due("methods were found", n > 150 ? 1 : 0, 1);
    }

    /** Rule 11, by names alone: methods of one name count as one, and a name below itself (takeFrom) is another's. */
    private static void callsAreShallow() {
        for (String name : CALLS.keySet()) {
            List<String> chain = new ArrayList<>();
            deepest(name, new ArrayList<>(), chain);
            Due.due("calls from " + name + " go at most eight deep: " + chain, chain.size() <= 8 ? 1 : 0, 1);
        }
    }

    private static void deepest(String name, List<String> above, List<String> chain) {
        if (!METHODS.contains(name) || above.contains(name)) {
            return;
        }
        above.add(name);
        if (above.size() > chain.size()) {
            chain.clear();
            chain.addAll(above);
        }
        for (String next : CALLS.getOrDefault(name, Set.of())) {
            deepest(next, above, chain);
        }
        above.remove(above.size() - 1);
    }

    private static void face() {
        Class<?> c = RiverHead.class;
        Due.due("public and final", c.getModifiers(), Modifier.PUBLIC | Modifier.FINAL);
        List<String> open = new ArrayList<>();
        List<String> hidden = new ArrayList<>();
        for (var method : c.getDeclaredMethods()) {
            if (Modifier.isPublic(method.getModifiers())) {
                open.add(method.getName());
            } else {
                hidden.add(method.getName());
                Due.due(method + " is private", Modifier.isPrivate(method.getModifiers()) ? 1 : 0, 1);
            }
        }
        Due.due("methods of the face", open.size(), FACE - 1);
        Due.due("constructors of the face", c.getConstructors().length, 1);
        hidden.retainAll(open);
        Due.due("private methods with a public name", hidden.size(), 0);
        for (var field : c.getDeclaredFields()) {
            Due.due(field + " is private", Modifier.isPrivate(field.getModifiers()) ? 1 : 0, 1);
        }
        Due.due("classes", c.getDeclaredClasses().length + 1 <= 12 ? 1 : 0, 1);
        for (Class<?> inside : c.getDeclaredClasses()) {
            Due.due(inside + " is static", Modifier.isStatic(inside.getModifiers()) ? 1 : 0, 1);
            long fields = List.of(inside.getDeclaredFields()).stream().filter(f -> !Modifier.isStatic(f.getModifiers())).count();
            Due.due(inside + " has few fields", fields <= 20 ? 1 : 0, 1);
        }
    }
}
