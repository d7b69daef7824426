import java.lang.reflect.Method;
import java.lang.reflect.Modifier;
import java.util.ArrayList;
import java.util.HashMap;
import java.util.List;
import java.util.Map;

/**
 * What the tests of boundary cases share. Calls are told as texts ("high(0, 4000)"), so that what is
 * printed is what was asked; a text that begins with '<' is fed to the tape.
 */
final class Edge {
    static final int LEAST = Integer.MIN_VALUE;
    static final int GREATEST = Integer.MAX_VALUE;
    /** Of the object that rich() makes: how many there are of each, which is also the first number that is none. */
    static final int RICH_ROWS = 9;
    static final int RICH_CLAIMS = 3;
    static final int RICH_BYTES = 8;

    private static final Map<String, Method> ACTS = new HashMap<>();
    /** Something of everything; no call of these answers a finding. */
    private static final String[] RICH = {
        "high(9, 1000)", "high(10, 900)", "high(11, 800)", "high(18, 850)", "high(20, 2000)", "high(47, 4000)",
        "water(10, 60)", "water(47, 99)", "king(1, 2)", "king(8, 3)", "king(47, 5)",
        "link(9, 10, 4095)", "link(10, 11, 7)", "link(10, 18, 4088)",
        "mean(0, 0, 1)", "mean(1, 5, 2)", "mean(3, 9, 3)",
        "set(0, 10)", "goods(0, 200)", "go(0, 40)", "goods(1, 999)", "go(1, 47)", "set(4, 30)", "stop(2, 100)",
        "row(0, 3, 202, 0)", "row(0, 1, 102, 0)", "row(0, 2, 7409, 0)", "row(0, 4, 0, 0)", "row(1, 5, 2003, 0)",
        "row(1, 6, 2104, 30)", "row(4, 0, 1234, 720)", "row(3, 3, 500, 0)", "strike(6, true)",
        "<source most in 0-5;bar 3", "text(0, 9)", "<pass 2 30;pass 0 7 in 0-11", "text(0, 4)",
        "claim(0, 8)", "claim(3, 10)", "claim(7, 40)", "tick(60)", "image()",
        "water(5, 5)", "row(3, 1, 401, 5)", "goods(3, 500)", "go(3, 47)", "tick(32)", "go(1, 0)",
        "sheet(0, 8, 6)", "write(0, 2, 7)", "sheet(1, 16, 3)", "write(1, 1, -2)", "sheet(2, 64, 2)", "write(2, 0, 99)",
        "<bar 1;pa"};

    private Edge() {
    }

    /** Asks one call; a text for the tape is answered with how many bytes the tape has then. */
    static long ask(RiverHead x, String call) {
        if (call.charAt(0) == '<') {
            return Due.feed(x, call.substring(1));
        }
        int open = call.indexOf('(');
        Method act = acts().get(call.substring(0, open));
        String[] told = call.substring(open + 1, call.length() - 1).split(", *");
        Class<?>[] types = act.getParameterTypes();
        Object[] args = new Object[types.length];
        for (int i = 0; i < types.length; i++) {
            args[i] = types[i] == boolean.class ? (Object) Boolean.valueOf(told[i])
                : types[i] == long.class ? (Object) Long.decode(told[i]) : (Object) Integer.decode(told[i]);
        }
        try {
            return ((Number) act.invoke(x, args)).longValue();
        } catch (ReflectiveOperationException e) {
            Due.fail(call + " threw " + Draw.cause(e));
            return 0;
        }
    }

    private static Map<String, Method> acts() {
        if (ACTS.isEmpty()) {
            for (Method method : RiverHead.class.getDeclaredMethods()) {
                if (Modifier.isPublic(method.getModifiers())) {
                    ACTS.put(method.getName(), method);
                }
            }
        }
        return ACTS;
    }

    /** A new object behind these calls. */
    static RiverHead after(String... calls) {
        return on(new RiverHead(), calls);
    }

    static RiverHead on(RiverHead x, String... calls) {
        for (String call : calls) {
            ask(x, call);
        }
        return x;
    }

    static RiverHead rich(String... ahead) {
        return on(after(RICH), ahead);
    }

    static void due(RiverHead x, String call, long want) {
        Due.due(call, ask(x, call), want);
    }

    /** What a call is answered on an object that has something of everything, behind other calls. */
    static void taken(long want, String call, String... ahead) {
        RiverHead x = rich(ahead);
        int findings = x.status(-1);
        due(x, call, want);
        Due.due(call + " is no finding", x.status(-1), findings);
    }

    /**
     * A call that is refused on an object that has something of everything, behind other calls: it answers the
     * finding, status() counts just that, and all else stays as on a twin that was not asked.
     */
    static void refused(int finding, String call, String... ahead) {
        for (int part = 0; part < 2; part++) {
            RiverHead x = rich(ahead);
            RiverHead twin = rich(ahead);
            due(x, call, finding);
            for (int which = -1; which < 7; which++) {
                boolean counts = which == -1 || which == -1000000001 - finding;
                Due.due(call + ", then status(" + which + ")", x.status(which), twin.status(which) + (counts ? 1 : 0));
            }
            for (String seen : part == 0 ? landSeen() : restSeen(twin)) {
                Due.due(call + " was refused, then " + seen, ask(x, seen), ask(twin, seen));
            }
        }
    }

    static void allRefused(int finding, String... calls) {
        for (String call : calls) {
            refused(finding, call);
        }
    }

    private static List<String> landSeen() {
        List<String> calls = new ArrayList<>();
        int[] high = new int[48];
        high[9] = 1000;
        high[10] = 900;
        high[11] = 800;
        high[18] = 850;
        high[20] = 2000;
        high[47] = 4000;
        for (int month = 0; month < 12; month++) {
            calls.add("mouth(9, " + month + ")");
            calls.add("above(11, " + month + ")");
        }
        for (int cell = 0; cell < 48; cell++) {
            calls.add("high(" + cell + ", " + high[cell] + ")");
            calls.add("water(" + cell + ", 0)");
            calls.add("king(" + cell + ", 0)");
        }
        return calls;
    }

    /** All but the land; the calls that change something come last. */
    private static List<String> restSeen(RiverHead twin) {
        List<String> calls = new ArrayList<>();
        looks(calls);
        for (int party = 0; party < 5; party++) {
            for (int what = 0; what < 6; what++) {
                calls.add("party(" + party + ", " + what + ")");
            }
        }
        for (int row = 0; row < Math.min(10, twin.look(1)); row++) {
            for (int what = 0; what < 7; what++) {
                calls.add("of(" + row + ", " + what + ")");
            }
            calls.add("where(" + row + ", " + twin.look(5) + ")");
        }
        for (int king = -1; king < 6; king++) {
            calls.add("why(" + king + ")");
            calls.add("price(" + king + ")");
        }
        for (int claim = 0; claim < Math.min(5, twin.look(4)); claim++) {
            calls.add("call(" + claim + ")");
        }
        for (int what = 0; what < 6; what++) {
            calls.add("book(0, " + what + ")");
            calls.add("book(2, " + what + ")");
        }
        changing(calls);
        return calls;
    }

    private static void looks(List<String> calls) {
        for (int what = 0; what < 8; what++) {
            calls.add("look(" + what + ")");
        }
    }

    private static void changing(List<String> calls) {
        for (int place = 0; place < 40; place++) {
            calls.add("mean(" + place / 10 + ", " + place % 10 + ", 0)");
        }
        for (int place = 0; place < 28; place++) {
            calls.add("write(" + place / 7 + ", " + place % 7 + ", 0)");
        }
        calls.add("undo()");
        looks(calls);
        calls.add("tear()");
        calls.add("text(0, 9)");
    }

    /** Each act's findings, asked with arguments one beyond, and as far beyond as an int goes. */
    static int[] beyond(int least, int greatest) {
        return new int[] {least - 1, greatest + 1, LEAST, GREATEST};
    }

    /** BEYOND for each number that is none; '#' stands for it in the call. */
    static void beyondEnds(String call, int least, int greatest) {
        for (int wrong : beyond(least, greatest)) {
            refused(Due.BEYOND, call.replace("#", String.valueOf(wrong)));
        }
    }

    static String[] times(int n, String call) {
        String[] calls = new String[n];
        java.util.Arrays.fill(calls, call);
        return calls;
    }

    static String[] both(String[] first, String... then) {
        List<String> calls = new ArrayList<>(List.of(first));
        calls.addAll(List.of(then));
        return calls.toArray(new String[0]);
    }

    /** Calls that make the open day that of a new object plus so many. */
    static String[] days(int n) {
        List<String> calls = new ArrayList<>();
        for (int left = n; left > 0; left -= Math.min(left, 360)) {
            calls.add("tick(" + Math.min(left, 360) + ")");
        }
        return calls.toArray(new String[0]);
    }
}
