/** What all tests here share: the findings by name, and the count of answers that are not as due. */
final class Due {
    static final int BEYOND = -1000000001;
    static final int FULL = -1000000002;
    static final int KIND = -1000000003;
    static final int NONE = -1000000004;
    static final int STATE = -1000000005;
    static final int MISSING = -1000000006;
    static final int SIZE = -1000000007;
    static final long ALL = (1L << 48) - 1;

    private static int wrong;
    private static int asked;
    private static int promise;

    private Due() {
    }

    /** The promise that the answers below are asked for. */
    static void promise(int number) {
        promise = number;
    }

    static void due(String call, long got, long want) {
        asked++;
        if (got != want) {
            wrong++;
            System.out.println("promise " + promise + ": " + call + " answered " + got + ", due is " + want);
        }
    }

    static void fail(String what) {
        asked++;
        wrong++;
        System.out.println(what);
    }

    static void end() {
        System.out.println(asked + " answers, " + wrong + " not as due");
        if (wrong != 0 || asked == 0) {
            System.exit(1);
        }
    }

    static long cells(int... cells) {
        long set = 0;
        for (int cell : cells) {
            set |= 1L << cell;
        }
        return set;
    }

    /** Feeds a text, four bytes a call: how many bytes the tape has then. */
    static int feed(RiverHead x, String text) {
        int n = x.look(6);
        for (int i = 0; i < text.length(); i += 4) {
            int bytes = 0;
            int end = Math.min(i + 4, text.length());
            for (int j = i; j < end; j++) {
                bytes = bytes << 8 | text.charAt(j);
            }
            n = x.feed(bytes, end - i);
        }
        return n;
    }

    /** What a text read from an empty tape is answered; a tape that stays is wiped. */
    static int read(RiverHead x, String text, int from, int to) {
        x.wipe();
        feed(x, text);
        int answer = x.text(from, to);
        x.wipe();
        return answer;
    }
}
