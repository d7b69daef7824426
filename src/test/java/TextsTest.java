/** Promises 25 to 31: texts and kings. */
public final class TextsTest {
    public static void main(String[] args) {
        feed();
        textAndFindings();
        goodTexts();
        faults();
        why();
        price();
        path();
        pass();
        Due.end();
    }

    private static void feed() {
        RiverHead x = new RiverHead();
        Due.promise(25);
        Due.due("n 0", x.feed(65, 0), Due.BEYOND);
        Due.due("n 5", x.feed(65, 5), Due.BEYOND);
        Due.due("n -1", x.feed(65, -1), Due.BEYOND);
        Due.due("bar", x.feed(0x7f626172, 3), 3);
        Due.due("a blank and 0", x.feed(0x2030, 2), 5);
        Due.due("the highest byte first", x.text(0, 0), 0);
        for (int i = 1; i <= 24; i++) {
            Due.due("four bytes", x.feed(-1, 4), 4 * i);
        }
        Due.due("three more", x.feed(-1, 3), 99);
        Due.due("two too many", x.feed(-1, 2), Due.FULL);
        Due.due("beyond ahead of full", x.feed(-1, 5), Due.BEYOND);
        Due.due("the last", x.feed(0, 1), 100);
        Due.due("one too many", x.feed(0, 1), Due.FULL);
        Due.due("bytes", x.look(6), 100);
        Due.due("of no text", x.text(0, 0), -1);
        Due.promise(27);
        Due.due("wipe", x.wipe(), 100);
        Due.due("wipe again", x.wipe(), 0);
        Due.due("bytes", x.look(6), 0);
    }

    private static void textAndFindings() {
        Due.promise(26);
        RiverHead x = new RiverHead();
        Due.feed(x, "bar 1");
        Due.due("text(-1, 0)", x.text(-1, 0), Due.BEYOND);
        Due.due("text(0, 10)", x.text(0, 10), Due.BEYOND);
        Due.due("text(10, 10)", x.text(10, 10), Due.BEYOND);
        Due.due("text(5, 4)", x.text(5, 4), Due.BEYOND);
        Due.due("the tape stays", x.look(6), 5);
        Due.due("text(9, 9)", x.text(9, 9), 0);
        Due.due("the tape is empty", x.look(6), 0);
        Due.due("nothing read", x.text(0, 0), -1);
        Due.due("no finding", x.status(-1), 4);
        for (int i = 1; i < 8; i++) {
            Due.due("text " + i, Due.read(x, "bar 1", 0, 9), i);
        }
        Due.feed(x, "bar x");
        Due.due("full ahead of a fault", x.text(0, 9), Due.FULL);
        Due.due("beyond ahead of full", x.text(1, 0), Due.BEYOND);
        Due.due("the tape stays", x.look(6), 5);
        Due.due("texts", x.look(3), 8);
        Due.due("texts in force", x.look(7), 7);
    }

    private static void goodTexts() {
        Due.promise(26);
        String[] good = {
            "source longest", "source most in 0-11", "source highest in 11-11", "pass 0 0", "pass 5 999",
            "pass 3 007 in 000-011", "bar 5", "bar 0 in 3-03", "bar 1;bar 2;bar 3;bar 4;bar 5",
            "pass 1 22 in 0-1;source most;bar 2 in 2-3"};
        for (String text : good) {
            Due.due("\"" + text + "\"", Due.read(new RiverHead(), text, 0, 9), 0);
        }
    }

    private static void faults() {
        Due.promise(26);
        // Where the fault is, '^' stands ahead of it; at the end it ends too early.
        String[] bad = {
            "^", "^x", "^ bar 1", "s^", "so^rce", "source^", "source ^", "source  ^longest".replace("  ^", " ^ "),
            "source ^x", "source l^", "source mo^re", "source high^ness", "source longest^ ".replace("^ ", " ^"),
            "source longest^s", "source most ^x", "source most i^", "source most in^", "source most in ^",
            "source most in ^x", "source most in 1^", "source most in 1^ ", "source most in 1-^", "source most in 1-^;",
            "source most in 12^-12", "source most in 12^", "source most in 100^-2", "source most in 123^4-5",
            "source most in 3-2^", "source most in 3-2^;bar 1", "source most in 3-12^", "source most in 3-12^;",
            "source most in 3-004^5", "source most in 0-999^9", "source most in 3-4^ ", "source most in 3-4^x",
            "pass^", "pass ^", "pass ^6", "pass 1^", "pass 1^1 3", "pass 1 ^", "pass 1 ^x", "pass 1 ^;", "pass 1 ^:", "pass 1 ^/", "pass ^/", "bar 1 in 1-^:", "pass 1 123^4",
            "pass 1 12^x", "pass 1 12 ^3", "pass 1 12^-", "b^ra 1", "bar ^", "bar ^6", "bar 1^1", "bar 1 ^",
            "bar 1 in 5-5^ in 5-5", "bar 1;^", "bar 1;^;bar 2", "bar 1^, bar 2", "bar 1; bar".replace("; ", ";^ "),
            "bar 1;bar 2;bar 3;bar 4;bar 5^;", "bar 1;bar 2;bar 3;bar 4;bar 5^;bar 0",
            "bar 1;bar 2;bar 3;bar 4;bar 5 in 1-0^;", "^Bar 1", "bar 1^" + (char) 0, "bar 1^" + (char) 255};
        for (String marked : bad) {
            int fault = marked.indexOf('^');
            String text = marked.substring(0, fault) + marked.substring(fault + 1);
            RiverHead x = new RiverHead();
            Due.feed(x, text);
            Due.due("\"" + marked + "\"", x.text(0, 9), -1 - fault);
            Due.due("the tape stays", x.look(6), text.length());
            Due.due("no text", x.look(3), 0);
            Due.due("no finding", x.status(-1), 0);
        }
    }

    private static void why() {
        Due.promise(28);
        RiverHead x = new RiverHead();
        Due.due("no source clause", x.why(-1), Due.NONE);
        Due.due("no clause", x.why(5), Due.NONE);
        Due.due("why(6)", x.why(6), Due.BEYOND);
        Due.due("why(-2)", x.why(-2), Due.BEYOND);
        Due.read(x, "bar 1;pass 1 5;pass 2 5 in 1-2;pass 2 6;source most in 1-1", 0, 1);
        Due.read(x, "pass 1 7", 1, 1);
        Due.due("the first clause", x.why(1), 0);
        Due.due("the one of this month", x.why(2), 3);
        Due.due("no source clause this month", x.why(-1), Due.NONE);
        x.tick(30);
        Due.due("in month 1", x.why(2), 2);
        Due.due("the source clause", x.why(-1), 4);
        x.tick(330);
        Due.due("the greatest text in year 1", x.why(1), 10);
        x.tick(60);
        Due.due("the last month", x.why(2), 2);
        x.tick(30);
        Due.due("behind it", x.why(2), 3);
        x.tick(270);
        Due.due("none in force any more", x.why(1), Due.NONE);
        Due.due("texts in force", x.look(7), 0);
    }

    private static void price() {
        Due.promise(29);
        RiverHead x = new RiverHead();
        Due.due("without a clause", x.price(5), 1);
        Due.read(x, "pass 5 0;pass 4 999;bar 3 in 0-0;pass 3 8", 0, 0);
        Due.due("nothing", x.price(5), 0);
        Due.due("much", x.price(4), 999);
        Due.due("bar", x.price(3), Due.STATE);
        Due.due("another king", x.price(0), 1);
        Due.due("price(6)", x.price(6), Due.BEYOND);
        Due.due("price(-1)", x.price(-1), Due.BEYOND);
        x.tick(30);
        Due.due("no bar in month 1", x.price(3), 8);
        x.tick(300);
        Due.due("without months in month 11, too", x.price(3), 8);
    }

    private static void path() {
        Due.promise(30);
        RiverHead x = new RiverHead();
        Due.due("all of one king", x.path(0, 47), 0);
        Due.due("to itself", x.path(7, 7), 0);
        for (int y = 0; y < 6; y++) {
            x.king(8 * y + 3, 1);
            x.king(8 * y + 5, 2);
        }
        Due.due("into and out of a stripe", x.path(0, 4), 2);
        Due.due("two stripes", x.path(0, 7), 4);
        Due.read(x, "pass 1 50;pass 2 7;pass 0 3", 0, 9);
        Due.due("priced", x.path(0, 7), 50 + 3 + 7 + 3);
        Due.due("into a stripe", x.path(0, 43), 50);
        Due.due("along a stripe", x.path(3, 43), 0);
        x.king(43, 4);
        Due.due("around by the cheap one", x.path(0, 7), 1 + 3 + 7 + 3);
        Due.read(x, "bar 2", 0, 9);
        Due.due("barred", x.path(0, 7), Due.NONE);
        Due.due("into a barred one", x.path(4, 5), Due.NONE);
        Due.due("along a barred stripe", x.path(5, 13), Due.NONE);
        Due.due("out of a barred one", x.path(5, 4), 3);
        Due.due("a barred one to itself", x.path(5, 5), 0);
        Due.due("path(48, 0)", x.path(48, 0), Due.BEYOND);
        Due.due("path(0, -1)", x.path(0, -1), Due.BEYOND);
        Due.due("path(-1, 0)", x.path(-1, 0), Due.BEYOND);
        Due.due("path(0, 48)", x.path(0, 48), Due.BEYOND);
    }

    private static void pass() {
        Due.promise(31);
        RiverHead x = new RiverHead();
        Due.due("all", x.pass(47, 0), Due.ALL);
        x.king(1, 1);
        x.king(8, 1);
        x.king(9, 2);
        Due.due("shut in", x.pass(0, 0), Due.cells(0));
        Due.due("for 1", x.pass(0, 1), Due.cells(0, 1, 8));
        Due.due("for 2", x.pass(0, 2), Due.ALL);
        Due.due("for very much", x.pass(0, Integer.MAX_VALUE), Due.ALL);
        Due.read(x, "bar 1", 0, 0);
        Due.due("barred", x.pass(0, 999), Due.cells(0));
        Due.due("into the corner no way", x.pass(47, 999), Due.ALL & ~Due.cells(0, 1, 8));
        Due.due("pass(48, 0)", x.pass(48, 0), Due.BEYOND);
        Due.due("pass(-1, 0)", x.pass(-1, 0), Due.BEYOND);
        Due.due("pass(0, -1)", x.pass(0, -1), Due.BEYOND);
    }
}
