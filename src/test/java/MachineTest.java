/** Any arguments in any state: nothing is thrown, and an act that answers a finding changes nothing but status(). */
public final class MachineTest {
    private static final int RUNS = 600;
    private static final int CALLS = 512;

    public static void main(String[] args) {
        for (int run = 0; run < RUNS; run++) {
            drawnRun(run, new int[] {2, 10, 40, 100}[run % 4]);
        }
        fullObject();
        Due.end();
    }

    private static void drawnRun(int run, int wild) {
        Draw draw = new Draw(1000 + run, wild);
        RiverHead all = new RiverHead();
        RiverHead good = new RiverHead();
        int findings = 0;
        for (int call = 0; call < CALLS - 1; call++) {
            draw.next();
            try {
                long got = ((Number) draw.askClass(all)).longValue();
                boolean stored = draw.name.equals("write") && all.status(-1) == findings;
                if (got < -1000000000L && !stored) {
                    findings++;
                } else if (!draw.name.equals("status")) {
                    Due.due("run " + run + ", call " + call + ": " + draw + " without findings before",
                        ((Number) draw.askClass(good)).longValue(), got);
                }
            } catch (ReflectiveOperationException e) {
                Due.fail("run " + run + ", call " + call + ": " + draw + " threw " + Draw.cause(e));
            }
        }
        Due.due("run " + run + ": findings in all", all.status(-1), findings);
        Due.due("run " + run + ": findings of the other one", good.status(-1), 0);
    }

    /** All limits reached at once, then every act that walks over all of it. */
    private static void fullObject() {
        RiverHead x = new RiverHead();
        for (int i = 0; i < 40; i++) {
            x.high(i % 7, 4000 - i % 7);
            x.link(i % 6, i % 6 + 1, 4095);
            x.row(0, i % 2 == 0 ? 1 : 4, i % 2 == 0 ? 409 : 0, 0);
        }
        for (int i = 0; i < 20; i++) {
            x.claim(39 - i, i);
        }
        for (int i = 0; i < 8; i++) {
            Due.read(x, "bar 1;bar 2;bar 3;bar 4;bar 5", 0, 9);
        }
        x.tick(360);
        x.image();
        x.undo();
        Due.due("where in a full book", x.where(39, 3599), Due.ALL);
        Due.due("fall in a full book", x.fall(0), 0);
        Due.due("next in a full book", x.next(), 0);
        Due.due("plan in a full book", x.plan(0xFF00000000L), 0);
        Due.due("links", x.look(0), 40);
        Due.due("rows", x.look(1), 40);
        Due.due("texts", x.look(3), 8);
        Due.due("claims", x.look(4), 20);
    }
}
