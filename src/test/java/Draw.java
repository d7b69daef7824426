import java.lang.reflect.InvocationTargetException;
import java.lang.reflect.Method;
import java.util.HashMap;
import java.util.Map;
import java.util.Random;

/** Drawn calls: mostly such as go, some just beyond, some far beyond. */
final class Draw {
    /** Each act with what its arguments are; the letters are told by number(). */
    private static final String[] ACTS = {
        "high cH", "water cW", "king ck", "link ccM", "link eeM", "link eeM", "mouth cm", "mouth cm", "run cm", "above cm",
        "above cm", "joined cc", "joined cc", "source cm", "source cm", "goods pg", "set pc", "go pc", "party pw",
        "stop pD", "row pK#l", "row pK#l", "as rK", "of rw", "strike r!", "strike r!", "mean tow", "mean tow", "fits r",
        "where rd", "where rd", "where rd", "count rd", "same rr", "same rr", "feed ih", "text yy", "wipe ", "why k",
        "why k", "price k", "path cc", "path cc", "pass cg", "map a", "slips aa", "copied a", "guesses ", "shore c",
        "shore c", "shore c", "claim rc", "call C", "call C", "fall r", "fall r", "fall r", "next ", "next ", "plan R",
        "plan R", "plan R", "judge ps", "beside r", "tick T", "book Bw", "check Bs", "known d", "sheet sbS", "write siv",
        "write siv", "copy sisih", "copy sisih", "image ", "undo ", "tear ", "look w", "status w"};
    private static final String[] TEXTS = {
        "source longest", "source most", "source highest", "pass 1 ", "pass 2 0", "pass 3 999", "pass 0 7", "bar ", "bar 4",
        "bar 0", " in 0-", "11", " in 3-5", " in 0-0", "1", "2", ";", ";", ";", "0", "x", " "};
    private static final int[] FAR = {
        -1, -2, 100, 4096, 9999, 10000, Integer.MAX_VALUE, Integer.MIN_VALUE, -1000000001, 1 << 30, 3600, 48};

    private final Random random;
    private final int wild;
    private final Map<String, Method> methods = new HashMap<>();
    String name;
    Object[] args;
    private int east = -1;

    /** Of a hundred arguments so many are drawn from anywhere. */
    Draw(long seed, int wild) {
        random = new Random(seed);
        this.wild = wild;
        for (Method method : RiverHead.class.getDeclaredMethods()) {
            if (java.lang.reflect.Modifier.isPublic(method.getModifiers())) {
                methods.put(method.getName(), method);
            }
        }
    }

    int methodCount() {
        return methods.size();
    }

    void next() {
        String act = ACTS[random.nextInt(ACTS.length)];
        int blank = act.indexOf(' ');
        name = act.substring(0, blank);
        Class<?>[] types = methods.get(name).getParameterTypes();
        args = new Object[types.length];
        for (int i = 0; i < types.length; i++) {
            char letter = act.charAt(blank + 1 + i);
            if (types[i] == boolean.class) {
                args[i] = random.nextInt(3) > 0;
            } else if (types[i] == long.class) {
                args[i] = longNumber(letter);
            } else {
                args[i] = random.nextInt(100) < wild ? anywhere() : number(letter);
            }
        }
        if (name.equals("row") && random.nextInt(100) >= wild) {
            args[2] = numbersOf((Integer) args[1]);
        }
    }

    private int anywhere() {
        return random.nextBoolean() ? FAR[random.nextInt(FAR.length)] : random.nextInt();
    }

    private long longNumber(char letter) {
        if (letter == 'R' && random.nextInt(20) > 0) {
            // The first rows are by turns of two parties (ModelTest).
            long set = random.nextInt(1 << 14) & random.nextInt(1 << 14);
            return random.nextInt(6) == 0 ? set : set & (random.nextBoolean() ? 0x1555L : 0x2AAAL);
        }
        return random.nextInt(4) == 0 ? random.nextLong() : random.nextInt(60);
    }

    private int numbersOf(int kind) {
        int[] a = {100, 5, 3, 6, 3, 8, 8};
        int[] b = {100, 4, 10, 6, 2, 4, 4};
        if (kind < 0 || kind > 6) {
            return random.nextInt(10000);
        }
        int first = kind == 2 ? new int[] {99, 74, 49, 50, 0}[random.nextInt(5)] : random.nextInt(a[kind]);
        return 100 * first + random.nextInt(b[kind]);
    }

    private int number(char letter) {
        switch (letter) {
            case 'c': return random.nextInt(3) == 0 ? random.nextInt(48) : random.nextInt(3) + 8 * random.nextInt(3);
            case 'e':
                // A cell and, drawn next, one to the east or south of it.
                int cell = east < 0 ? random.nextInt(40) : east;
                east = east >= 0 ? -1 : cell + (random.nextBoolean() ? 1 : 8);
                return cell;
            case 'h': return random.nextInt(6);
            case 'H': return new int[] {4000, 3000, 2000, 1999, 1000, 900, 800, 10, 0}[random.nextInt(9)];
            case 'W': return new int[] {99, 50, 49, 0, 60}[random.nextInt(5)];
            case 'k': return random.nextInt(8) - 1;
            case 'M': return random.nextInt(4) == 0 ? random.nextInt(4200) : 4095;
            case 'm': return random.nextInt(12);
            case 'p': return random.nextInt(3) == 0 ? random.nextInt(5) : random.nextInt(2);
            case 'g': return random.nextInt(40);
            case 'w': return random.nextInt(10);
            case 'd': return random.nextInt(4) == 0 ? random.nextInt(3600) : random.nextInt(200);
            // Few days, so that some come again.
            case 'D': return random.nextInt(4) == 0 ? random.nextInt(3600) : 20 * random.nextInt(10);
            case 'K': return random.nextInt(7);
            case 'l': return random.nextInt(2) == 0 ? 0 : random.nextInt(40);
            case 'r': return random.nextInt(random.nextInt(4) == 0 ? 42 : 12);
            case 't': return random.nextInt(2);
            case 'o': return random.nextInt(3);
            case 'y': return random.nextInt(10) < 9 ? random.nextInt(2) * 9 : random.nextInt(12);
            case 'a': return random.nextInt(10) - 1;
            case 'C': return random.nextInt(20);
            case 's': return random.nextInt(9) / 2;
            case 'T': return random.nextInt(8) == 0 ? random.nextInt(362) : random.nextInt(20);
            case 'B': return random.nextInt(6) == 0 ? random.nextInt(121) : random.nextInt(5);
            case 'b': return new int[] {8, 16, 64, 8, 16, 64, 0, 32}[random.nextInt(8)];
            case 'S': return random.nextInt(3) > 0 ? random.nextInt(8) : random.nextInt(42);
            case 'i': return random.nextInt(8);
            default: return random.nextInt(100);
        }
    }

    /** A text that may have a fault. */
    String text() {
        StringBuilder text = new StringBuilder();
        int n = random.nextInt(6) + 1;
        for (int i = 0; i < n; i++) {
            text.append(i == 0 ? "" : ";").append(clause());
        }
        if (random.nextInt(3) == 0) {
            text.insert(random.nextInt(text.length() + 1), TEXTS[random.nextInt(TEXTS.length)]);
        }
        if (random.nextInt(6) == 0) {
            text.setLength(random.nextInt(text.length() + 1));
        }
        return text.length() > 100 ? text.substring(0, 100) : text.toString();
    }

    private String clause() {
        String[] rules = {"longest", "most", "highest"};
        int king = random.nextInt(6);
        int kind = random.nextInt(5);
        String clause = kind < 2 ? "source " + rules[random.nextInt(3)]
            : kind < 4 ? "pass " + king + " " + random.nextInt(random.nextBoolean() ? 4 : 1000) : "bar " + king;
        if (random.nextBoolean()) {
            return clause;
        }
        int first = random.nextInt(6);
        return clause + " in " + first + "-" + (first + random.nextInt(random.nextInt(5) == 0 ? 12 : 6));
    }

    int below(int n) {
        return random.nextInt(n);
    }

    /** What is asked next is told, not drawn. */
    void tell(String act, Object... with) {
        name = act;
        args = with;
    }

    Object askClass(RiverHead x) throws ReflectiveOperationException {
        return methods.get(name).invoke(x, args);
    }

    Object askModel(Model m) throws ReflectiveOperationException {
        Method method = Model.class.getDeclaredMethod(name, methods.get(name).getParameterTypes());
        return method.invoke(m, args);
    }

    static Throwable cause(ReflectiveOperationException e) {
        return e instanceof InvocationTargetException ? e.getCause() : e;
    }

    @Override
    public String toString() {
        StringBuilder text = new StringBuilder(name).append('(');
        for (int i = 0; i < args.length; i++) {
            text.append(i == 0 ? "" : ", ").append(args[i]);
        }
        return text.append(')').toString();
    }
}
