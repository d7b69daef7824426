import java.util.TreeMap;

/** Promises 1 to 55 once more: drawn runs of at most 512 calls, asked of the class and of the naive model. */
public final class ModelTest {
    private static final int RUNS = 150;
    private static final int CALLS = 512;
    private static final TreeMap<String, TreeMap<Long, Integer>> SEEN = new TreeMap<>();

    private final int run;
    private final Draw draw;
    private final RiverHead x = new RiverHead();
    private final Model m = new Model();
    private int calls;
    private boolean differs;

    private ModelTest(int run) {
        this.run = run;
        draw = new Draw(run, run % 4);
    }

    public static void main(String[] args) throws ReflectiveOperationException {
        int wrong = 0;
        for (int run = 0; run < RUNS && wrong < 10; run++) {
            ModelTest test = new ModelTest(run);
            test.prepare();
            test.goOn();
            wrong += test.differs ? 1 : 0;
        }
        Due.due("runs that differ", wrong, 0);
        readTexts();
        Due.due("acts that were asked", SEEN.size(), new Draw(0, 0).methodCount());
        SEEN.forEach((name, answers) -> Due.due(name + " had several answers", answers.size() > 1 ? 1 : 0,
            name.equals("image") ? 0 : 1));
        if (args.length > 0) {
            SEEN.forEach((name, answers) -> System.out.println(name + " " + answers));
        }
        Due.end();
    }

    private static void readTexts() {
        Draw draw = new Draw(-1, 0);
        int good = 0;
        for (int i = 0; i < 20000; i++) {
            String text = draw.text();
            RiverHead x = new RiverHead();
            Model m = new Model();
            Due.feed(x, text);
            for (int j = 0; j < text.length(); j++) {
                m.feed(text.charAt(j), 1);
            }
            int got = x.text(0, 9);
            good += got == 0 ? 1 : 0;
            Due.due("text \"" + text + "\"", got, m.text(0, 9));
            for (int king = -1; king < 6; king++) {
                Due.due("why of \"" + text + "\"", x.why(king), m.why(king));
            }
        }
        Due.due("many were texts", good > 2000 && good < 18000 ? 1 : 0, 1);
    }

    /** Heights that fall to the south-east, links, kings, books of parties 0 and 1 by turns, claims. */
    private void prepare() throws ReflectiveOperationException {
        int tenth = draw.below(3);
        for (int cell = 0; cell < 48; cell++) {
            ask("high", cell, 4000 - 80 * (cell % 8 + cell / 8) * (tenth + 1) + draw.below(40));
        }
        for (int i = 0; i < 30; i++) {
            int from = draw.below(47);
            ask("link", from, draw.below(2) == 0 ? from + 1 : Math.min(47, from + 8), 1 + draw.below(4095));
            ask("king", draw.below(48), draw.below(6));
        }
        for (int i = 0; i < 10; i++) {
            ask("water", draw.below(48), draw.below(100));
            ask("mean", draw.below(4), draw.below(10), draw.below(4));
        }
        for (int party = 0; party < 4; party++) {
            ask("goods", party, draw.below(400));
            ask("go", party, draw.below(48));
        }
        int rows = 6 + draw.below(9);
        for (int row = 0; row < rows; row++) {
            int kind = new int[] {1, 1, 1, 2, 3, 3, 4, 5, 6, 0}[draw.below(10)];
            ask("row", row % 2, kind, wideNumbers(kind), draw.below(3) == 0 ? draw.below(60) : 0);
        }
        for (int i = 0; i < 8; i++) {
            ask("claim", draw.below(rows), draw.below(48));
        }
    }

    /** Such as leave some cells, so that several rows can be as told. */
    private int wideNumbers(int kind) {
        switch (kind) {
            case 1: return 100 * draw.below(5) + draw.below(4);
            case 2: return 100 * draw.below(60) + 9;
            case 3: return 100 * draw.below(6) + draw.below(4);
            case 4: return 100 * draw.below(10) + draw.below(4);
            default: return 100 * draw.below(12) + 1 + draw.below(8);
        }
    }

    private void goOn() throws ReflectiveOperationException {
        for (int i = 0; i < CALLS && calls < CALLS - 50 && !differs; i++) {
            int what = draw.below(60);
            if (what == 0) {
                readText();
            } else if (what == 1) {
                judgeSheet(draw.below(2));
            } else if (what == 2) {
                checkSheet();
            } else {
                draw.next();
                askBoth();
            }
        }
    }

    private void readText() throws ReflectiveOperationException {
        ask("wipe");
        String text = draw.text();
        for (int i = 0; i < text.length(); i += 4) {
            int bytes = 0;
            int end = Math.min(i + 4, text.length());
            for (int j = i; j < end; j++) {
                bytes = bytes << 8 | text.charAt(j);
            }
            ask("feed", bytes, end - i);
        }
        ask("text", draw.below(2), 1 + draw.below(9));
    }

    /** A sheet that goes as far as a greedy choice leads. */
    private void judgeSheet(int party) throws ReflectiveOperationException {
        int size = m.party(party, 4);
        ask("sheet", 0, 8, size);
        int at = draw.below(48);
        int number = 0;
        for (int row = 0; number < size && row < m.look(1); row++) {
            if (m.of(row, 3) == party) {
                long spot = m.where(row, m.look(5));
                boolean there = (spot >>> at & 1) != 0;
                at = there || spot == 0 || draw.below(9) == 0 ? at : Long.numberOfTrailingZeros(spot);
                ask("write", 0, number, (long) at);
                number++;
            }
        }
        ask("judge", party, 0);
    }

    private void checkSheet() throws ReflectiveOperationException {
        int closed = m.look(5) / 30;
        if (closed == 0) {
            return;
        }
        int month = draw.below(closed);
        ask("sheet", 1, 64, 6);
        for (int i = 0; i < 6; i++) {
            ask("write", 1, i, (long) m.book(month, i) + (draw.below(12) == 0 ? 1 : 0));
        }
        ask("check", month, 1);
    }

    private void ask(String name, Object... args) throws ReflectiveOperationException {
        draw.tell(name, args);
        askBoth();
    }

    private void askBoth() throws ReflectiveOperationException {
        calls++;
        long got = ((Number) draw.askClass(x)).longValue();
        long want = ((Number) draw.askModel(m)).longValue();
        SEEN.computeIfAbsent(draw.name, key -> new TreeMap<>()).merge(want, 1, Integer::sum);
        if (got != want && !differs) {
            System.out.println("run " + run + ", call " + calls + ": " + draw + " answered " + got + ", due is " + want);
            differs = true;
        }
    }
}
