/** The boundary cases of promises 25 to 31 and of section 3, sentence by sentence. */
public final class TextsEdgesTest {
    /** Behind these a rich object has as many texts as there can be, and nothing on the tape. */
    private static final String[] ALL_TEXTS = {
        "wipe()", "<bar 1", "text(0, 9)", "<bar 1", "text(0, 9)", "<bar 1", "text(0, 9)", "<bar 1", "text(0, 9)", "<bar 1",
        "text(0, 9)", "<bar 1", "text(0, 9)"};

    public static void main(String[] args) {
        feedBeyond();
        feedFull();
        feedBytes();
        textBeyond();
        textYears();
        textFull();
        textOrder();
        textEmptiesTheTape();
        textFaultIsNoFinding();
        emptyTape();
        fullTape();
        clauses();
        kings();
        numbers();
        months();
        endsTooEarly();
        otherBytes();
        wipe();
        whyFindings();
        whyNumber();
        whyYears();
        whyMonths();
        whyFirst();
        price();
        priceState();
        pathBeyond();
        pathNone();
        pathCosts();
        pass();
        Due.end();
    }

    // Promise 25: "BEYOND: n."
    private static void feedBeyond() {
        Due.promise(25);
        Edge.beyondEnds("feed(0, #)", 1, 4);
        // ahead of FULL
        String[] full = {"<" + "x".repeat(92)};
        Edge.refused(Due.BEYOND, "feed(0, 0)", full);
        Edge.refused(Due.BEYOND, "feed(0, 5)", full);
        Edge.refused(Due.BEYOND, "feed(0, -1)", full);
    }

    // Promise 25: "FULL."
    // Terms 3: "THE TAPE (bytes, at most 100)"
    private static void feedFull() {
        Due.promise(25);
        for (int n = 1; n <= 4; n++) {
            String[] justFits = {"<" + "x".repeat(92 - n)};
            String[] oneTooMany = {"<" + "x".repeat(93 - n)};
            Edge.taken(100, "feed(-1, " + n + ")", justFits);
            Edge.refused(Due.FULL, "feed(-1, " + n + ")", oneTooMany);
            Edge.refused(Due.FULL, "feed(-1, " + n + ")", "<" + "x".repeat(92));
        }
    }

    // Promise 25: "THE TAPE gets the n lowest bytes of a number behind it, the highest of these first (n 1 to 4): how many it has."
    private static void feedBytes() {
        Due.promise(25);
        // "bar " and "5", with bytes that n leaves out ahead of them
        RiverHead x = new RiverHead();
        Edge.due(x, "feed(-158, 1)", 1);            // 0xFFFFFF62
        Edge.due(x, "feed(-2137034446, 3)", 4);     // 0x809F9F32
        Edge.due(x, "wipe()", 4);
        Edge.due(x, "feed(-10329742, 3)", 3);       // 0xFF626172: bar
        Edge.due(x, "feed(2130714677, 2)", 5);      // 0x7F002035: blank, 5
        Edge.due(x, "text(0, 9)", 0);
        Edge.due(x, "price(5)", Due.STATE);
        Edge.due(x, "feed(1650553376, 4)", 4);      // 0x62617220: bar, blank
        Edge.due(x, "feed(-204, 1)", 5);            // 0xFFFFFF34: 4
        Edge.due(x, "text(0, 9)", 1);
        Edge.due(x, "price(4)", Due.STATE);
    }

    // Promise 26: "BEYOND: YEARS, or from above to."
    private static void textBeyond() {
        Due.promise(26);
        String[] bar = {"wipe()", "<bar 1"};
        for (int wrong : Edge.beyond(0, 9)) {
            Edge.refused(Due.BEYOND, "text(" + wrong + ", 9)", bar);
            Edge.refused(Due.BEYOND, "text(0, " + wrong + ")", bar);
            Edge.refused(Due.BEYOND, "text(" + wrong + ", " + wrong + ")", bar);
        }
        Edge.refused(Due.BEYOND, "text(1, 0)", bar);
        Edge.refused(Due.BEYOND, "text(9, 8)", bar);
        Edge.refused(Due.BEYOND, "text(9, 0)", bar);
        Edge.taken(2, "text(0, 0)", bar);
        Edge.taken(2, "text(9, 9)", bar);
        Edge.taken(2, "text(0, 9)", bar);
        Edge.taken(2, "text(8, 9)", bar);
    }

    // Terms 3: "in force from a YEAR to one (0 to 9)"
    // Terms 1: "YEAR: the DAY by 360"
    private static void textYears() {
        Due.promise(26);
        RiverHead x = Edge.after("<bar 1", "text(0, 0)", "<bar 2", "text(1, 2)", "<bar 3", "text(9, 9)", "<bar 4", "text(0, 9)");
        int[] days = {0, 359, 360, 1079, 1080, 3239, 3240, 3599};
        int[] inForce = {2, 2, 2, 2, 1, 1, 2, 2};
        int[] barred = {1, 1, 2, 2, 4, 4, 3, 3};
        for (int i = 0; i < days.length; i++) {
            Edge.on(x, Edge.days(days[i] - x.look(5)));
            Edge.due(x, "look(5)", days[i]);
            Edge.due(x, "look(7)", inForce[i]);
            for (int king = 1; king < 4; king++) {
                Edge.due(x, "price(" + king + ")", king == barred[i] ? Due.STATE : 1);
            }
        }
    }

    // Promise 26: "FULL."
    // Terms 3: "TEXTS 0, 1, .. (at most 8)"
    private static void textFull() {
        Due.promise(26);
        RiverHead x = new RiverHead();
        for (int text = 0; text < 8; text++) {
            Due.feed(x, "bar 1");
            Edge.due(x, "text(9, 9)", text);
        }
        Edge.refused(Due.FULL, "text(0, 9)", Edge.both(ALL_TEXTS, "<bar 1"));
        // texts that are not in force are texts
        Due.feed(x, "bar 1");
        Edge.due(x, "look(7)", 0);
        Edge.due(x, "text(0, 9)", Due.FULL);
        Edge.due(x, "look(6)", 5);
    }

    // Terms 0: "Each act tells its findings in the order in which they are asked"
    private static void textOrder() {
        Due.promise(26);
        // BEYOND ahead of FULL, FULL ahead of a fault, BEYOND ahead of a fault
        Edge.refused(Due.BEYOND, "text(1, 0)", Edge.both(ALL_TEXTS, "<bar 1"));
        Edge.refused(Due.BEYOND, "text(0, 10)", Edge.both(ALL_TEXTS, "<bar x"));
        Edge.refused(Due.FULL, "text(0, 9)", Edge.both(ALL_TEXTS, "<bar x"));
        Edge.refused(Due.FULL, "text(0, 9)", ALL_TEXTS);
        Edge.refused(Due.BEYOND, "text(-1, 9)");
    }

    // Promise 26: "THE TAPE is a TEXT, in force from a YEAR to one: its number; THE TAPE is empty then."
    private static void textEmptiesTheTape() {
        Due.promise(26);
        RiverHead x = Edge.after("<bar 1");
        Edge.due(x, "text(0, 9)", 0);
        Edge.due(x, "look(6)", 0);
        Edge.due(x, "wipe()", 0);
        Edge.due(x, "text(0, 9)", -1);
        Edge.due(x, "look(3)", 1);
    }

    // Promise 26: "With a FAULT: -1 less the FAULT (THE TAPE stays; no finding)."
    private static void textFaultIsNoFinding() {
        Due.promise(26);
        // the tape of a rich object is "bar 1;pa"
        Edge.taken(-9, "text(0, 9)");
        RiverHead x = Edge.rich("text(0, 9)");
        Edge.due(x, "status(-1)", 0);
        Edge.due(x, "look(3)", 2);
        Edge.due(x, "look(6)", Edge.RICH_BYTES);
        Edge.due(x, "text(0, 9)", -9);
        // what was read of it ahead of the fault is not in force
        Edge.due(x, "why(1)", Due.NONE);
        Edge.on(x, "<ss 4 8");
        Edge.due(x, "text(0, 9)", 2);
        Edge.due(x, "why(1)", 20);
        Edge.due(x, "price(4)", 8);
        // nor do its months stay for a clause without such, nor its clauses for a text of fewer
        RiverHead y = Edge.after("<bar 1 in 5-6;pass 2 9;x", "text(0, 9)", "wipe()", "<bar 1");
        Edge.due(y, "text(0, 9)", 0);
        Edge.due(y, "why(1)", 0);
        Edge.due(y, "why(2)", Due.NONE);
        y.tick(359);
        Edge.due(y, "why(1)", 0);
    }

    private static void fault(String marked) {
        int place = marked.indexOf('^');
        String text = marked.substring(0, place) + marked.substring(place + 1);
        RiverHead x = new RiverHead();
        Due.feed(x, text);
        Due.due("\"" + marked + "\"", x.text(0, 9), -1 - place);
        Due.due("\"" + marked + "\" stays on the tape", x.look(6), text.length());
        Due.due("\"" + marked + "\" is no text", x.look(3), 0);
        Due.due("\"" + marked + "\" is no finding", x.status(-1), 0);
    }

    private static void good(String text) {
        RiverHead x = new RiverHead();
        Due.feed(x, text);
        Due.due("\"" + text + "\"", x.text(0, 9), 0);
        Due.due("\"" + text + "\" is off the tape", x.look(6), 0);
        Due.due("\"" + text + "\" is a text", x.look(3), 1);
    }

    // Terms 3: "how many bytes there are, if it ends too early"
    private static void emptyTape() {
        Due.promise(26);
        fault("^");
        Edge.taken(-1, "text(0, 9)", "wipe()");
    }

    // Terms 3: "THE TAPE (bytes, at most 100)"
    private static void fullTape() {
        Due.promise(26);
        String four = "source longest in 0-11;".repeat(4);
        good(four + "pass 0 1");
        fault(four + "pass 0 ^x");
        fault(four + "pass 0^2");
        fault(four + "source m^");
        fault("^" + "x".repeat(100));
    }

    // Terms 3: "TEXT: CLAUSE, and any number of times ; CLAUSE (5 CLAUSES at most)."
    private static void clauses() {
        Due.promise(26);
        good("bar 1");
        good("bar 1;bar 1;bar 1;bar 1");
        good("bar 1;bar 1;bar 1;bar 1;bar 1");
        fault("bar 1;bar 1;bar 1;bar 1;bar 1^;");
        fault("bar 1;bar 1;bar 1;bar 1;bar 1^;bar 1");
        fault("bar 1;bar 1;bar 1;bar 1;^");
        fault("bar 1;bar 1;bar 1;bar 1;^;");
        fault("^;bar 1");
        fault("bar 1;^;bar 1");
        fault("bar 1 ^;bar 1");
        fault("bar 1;^ bar 1");
    }

    // Terms 3: "a KING (one digit, 0 to 5)"
    private static void kings() {
        Due.promise(26);
        good("bar 0");
        good("bar 5");
        good("pass 0 1");
        good("pass 5 1");
        fault("bar ^6");
        fault("bar ^9");
        fault("bar ^/");
        fault("bar ^:");
        fault("bar ^-1");
        fault("bar 0^0");
        fault("bar 5^5");
        fault("pass ^6 1");
        fault("pass ^/ 1");
        fault("pass 0^1 1");
    }

    // Terms 3: "NUMBER: 1 to 3 digits."
    private static void numbers() {
        Due.promise(26);
        good("pass 1 0");
        good("pass 1 9");
        good("pass 1 10");
        good("pass 1 000");
        good("pass 1 999");
        fault("pass 1 ^");
        fault("pass 1 ^;");
        fault("pass 1 ^-1");
        fault("pass 1 ^/");
        fault("pass 1 ^:");
        fault("pass 1 000^0");
        fault("pass 1 100^0");
        fault("bar 1 in ^-5");
        fault("bar 1 in 1-^");
        fault("bar 1 in 1-^;bar 1");
        fault("bar 1 in 000^0-1");
        fault("bar 1 in 0-000^1");
        good("bar 1 in 000-011");
        good("bar 1 in 00-11");
    }

    // Terms 3: "(MONTHS, 0 to 11, the second not below the first)"
    // Terms 3: "(of MONTHS that are not as told: the first byte behind the digits;"
    private static void months() {
        Due.promise(26);
        good("bar 1 in 0-0");
        good("bar 1 in 0-11");
        good("bar 1 in 11-11");
        good("bar 1 in 10-11;bar 2");
        fault("bar 1 in 12^-12");
        fault("bar 1 in 12^");
        fault("bar 1 in 999^-1");
        fault("bar 1 in 012^x");
        fault("bar 1 in 0-12^");
        fault("bar 1 in 0-12^;bar 2");
        fault("bar 1 in 0-12^x");
        fault("bar 1 in 0-999^9");
        fault("bar 1 in 1-0^");
        fault("bar 1 in 1-0^;bar 2");
        fault("bar 1 in 11-10^");
        fault("bar 1 in 11-1^");
        fault("bar 1 in 11-1^x");
        fault("source most in 2-1^ in 1-2");
        fault("pass 1 5 in 2-001^1");
    }

    // Terms 3: "how many bytes there are, if it ends too early"
    private static void endsTooEarly() {
        Due.promise(26);
        String[] texts = {"source longest in 10-11", "source most in 0-1", "source highest", "pass 3 7 in 3-5", "bar 2 in 0-0"};
        for (String text : texts) {
            for (int n = 0; n < text.length(); n++) {
                String begun = text.substring(0, n);
                boolean isText = begun.matches("(source (longest|most|highest)|pass 3 7|bar 2)( in \\d+-\\d+)?");
                if (isText && !begun.endsWith("10-1")) {
                    good(begun);
                } else {
                    // "10-1" has months that are not as told; the first byte behind the digits is where it ends, too
                    fault(begun + "^");
                }
            }
            good(text);
        }
    }

    // Terms 3: "The FAULT is the place of the first byte with which no TEXT begins so"
    private static void otherBytes() {
        Due.promise(26);
        for (int sign : new int[] {0, 9, 10, 127, 128, 160, 255}) {
            fault("^" + (char) sign);
            fault("bar 1^" + (char) sign);
            fault("bar ^" + (char) sign);
        }
        fault("^Source most");
        fault("source ^Most");
        fault("source longest^s");
        fault("source lo^st");
        fault("source highest ^ in 1-1");
        fault("bar 1 in 1^ -1");
        fault("bar 1 in 1-^ 1");
        fault("bar 1 ^ in 1-1");
        fault("pass 1 5^,");
        fault("p^");
        fault("so^x");
    }

    // Promise 27: "THE TAPE is empty: how many it had."
    private static void wipe() {
        Due.promise(27);
        RiverHead x = new RiverHead();
        Edge.due(x, "wipe()", 0);
        Edge.on(x, "<" + "x".repeat(100));
        Edge.due(x, "wipe()", 100);
        Edge.due(x, "look(6)", 0);
        Edge.due(x, "wipe()", 0);
        Edge.due(x, "feed(0, 1)", 1);
        Edge.due(x, "wipe()", 1);
        Edge.due(x, "status(-1)", 0);
    }

    // Promise 28: "BEYOND."
    // Promise 28: "NONE."
    private static void whyFindings() {
        Due.promise(28);
        Edge.beyondEnds("why(#)", -1, 5);
        Edge.allRefused(Due.NONE, "why(1)", "why(4)", "why(5)");
        Edge.taken(0, "why(-1)");
        Edge.taken(11, "why(0)");
        Edge.taken(1, "why(3)");
        Edge.taken(10, "why(2)");
        Edge.refused(Due.NONE, "why(-1)", "tick(88)");
        for (int king = -1; king < 6; king++) {
            Edge.due(new RiverHead(), "why(" + king + ")", Due.NONE);
        }
    }

    // Promise 28: "10 times the TEXT, and the CLAUSE (from 0)."
    private static void whyNumber() {
        Due.promise(28);
        RiverHead x = new RiverHead();
        for (int text = 0; text < 8; text++) {
            Edge.on(x, "<bar 0;bar 1;bar 2;bar 3;bar 4", "text(0, 9)");
            Edge.due(x, "why(0)", 10 * text);
            Edge.due(x, "why(4)", 10 * text + 4);
            Edge.due(x, "why(5)", Due.NONE);
        }
    }

    // Terms 3: "in force from a YEAR to one (0 to 9)"
    private static void whyYears() {
        Due.promise(28);
        RiverHead x = Edge.after("<source most", "text(1, 1)");
        Edge.due(x, "why(-1)", Due.NONE);
        x.tick(359);
        Edge.due(x, "why(-1)", Due.NONE);
        x.tick(1);
        Edge.due(x, "why(-1)", 0);
        x.tick(359);
        Edge.due(x, "why(-1)", 0);
        x.tick(1);
        Edge.due(x, "why(-1)", Due.NONE);
    }

    // Terms 3: "whose MONTHS (if it has such) have the open one"
    // Terms 1: "MONTH: what is left of it, by 30."
    private static void whyMonths() {
        Due.promise(28);
        RiverHead x = Edge.after("<bar 0 in 0-0;bar 1 in 1-1;bar 2 in 11-11;bar 3 in 2-10;bar 4", "text(0, 9)");
        int[] days = {0, 29, 30, 59, 60, 329, 330, 359, 360, 389, 390};
        int[] king = {0, 0, 1, 1, 3, 3, 2, 2, 0, 0, 1};
        for (int i = 0; i < days.length; i++) {
            Edge.on(x, Edge.days(days[i] - x.look(5)));
            for (int asked = 0; asked < 4; asked++) {
                Edge.due(x, "why(" + asked + ")", asked == king[i] ? asked : Due.NONE);
            }
            Edge.due(x, "why(4)", 4);
        }
    }

    // Terms 3: "Of TEXTS in force, the greatest number first, the first CLAUSE that is about it"
    private static void whyFirst() {
        Due.promise(28);
        RiverHead x = Edge.after("<pass 1 5;pass 1 6", "text(0, 9)", "<pass 1 7 in 1-1;bar 2", "text(0, 9)", "<pass 1 8", "text(1, 1)");
        Edge.due(x, "why(1)", 0);
        Edge.due(x, "price(1)", 5);
        x.tick(30);
        Edge.due(x, "why(1)", 10);
        x.tick(30);
        Edge.due(x, "why(1)", 0);
        x.tick(300);
        Edge.due(x, "why(1)", 20);
        Edge.due(x, "why(2)", 11);
    }

    // Promise 29: "BEYOND."
    // Terms 3: "A PRICE of a KING: its NUMBER; without: 1."
    private static void price() {
        Due.promise(29);
        Edge.beyondEnds("price(#)", 0, 5);
        Edge.taken(7, "price(0)");
        Edge.taken(1, "price(5)");
        for (int king = 0; king < 6; king++) {
            Edge.due(new RiverHead(), "price(" + king + ")", 1);
        }
        RiverHead x = Edge.after("<pass 0 0;pass 5 999;pass 1 007", "text(0, 0)");
        Edge.due(x, "price(0)", 0);
        Edge.due(x, "price(5)", 999);
        Edge.due(x, "price(1)", 7);
        x.tick(360);
        Edge.due(x, "price(0)", 1);
        Edge.due(x, "price(5)", 1);
    }

    // Promise 29: "STATE: his CLAUSE says bar."
    private static void priceState() {
        Due.promise(29);
        Edge.refused(Due.STATE, "price(3)");
        Edge.refused(Due.STATE, "price(5)", "wipe()", "<bar 5", "text(0, 9)");
        // of the two the one that counts
        Edge.taken(4, "price(3)", "wipe()", "<pass 3 4", "text(0, 9)");
        Edge.refused(Due.STATE, "price(2)", "wipe()", "<bar 2;pass 2 4", "text(0, 9)");
        Edge.taken(4, "price(2)", "wipe()", "<pass 2 4;bar 2", "text(0, 9)");
    }

    // Promise 30: "BEYOND."
    private static void pathBeyond() {
        Due.promise(30);
        Edge.beyondEnds("path(#, 0)", 0, 47);
        Edge.beyondEnds("path(0, #)", 0, 47);
        // the corner is shut in by king 2 (30 goods) and king 3 (who bars); king 0 takes 7, king 5 takes 1
        Edge.taken(30 + 7 + 1, "path(0, 47)");
        Edge.taken(7 + 30 + 7, "path(47, 0)");
        // ahead of NONE: cell 8 is barred
        Edge.refused(Due.BEYOND, "path(48, 8)");
    }

    // Promise 30: "NONE: there is no WAY."
    // Terms 3: "into none whose CLAUSE says bar (but for the first CELL)."
    private static void pathNone() {
        Due.promise(30);
        // king 3 bars; cell 8 is his
        Edge.refused(Due.NONE, "path(0, 8)");
        Edge.taken(7, "path(8, 0)");
        Edge.refused(Due.NONE, "path(8, 16)", "king(16, 3)");
        Edge.refused(Due.NONE, "path(0, 47)", "king(1, 3)");
        Edge.refused(Due.NONE, "path(47, 0)", "king(1, 3)");
        Edge.taken(30, "path(0, 1)");
        // the last month, and the first, of a bar
        RiverHead x = Edge.after("king(1, 1)", "<bar 1 in 1-1", "text(0, 9)");
        Edge.due(x, "path(0, 1)", 1);
        Edge.on(x, "tick(29)");
        Edge.due(x, "path(0, 1)", 1);
        x.tick(1);
        Edge.due(x, "path(0, 1)", Due.NONE);
        x.tick(29);
        Edge.due(x, "path(0, 1)", Due.NONE);
        x.tick(1);
        Edge.due(x, "path(0, 1)", 1);
    }

    // Terms 3: "each step into a CELL of another KING than that of the CELL before costs his PRICE, each other step 0;"
    private static void pathCosts() {
        Due.promise(30);
        RiverHead x = new RiverHead();
        Edge.due(x, "path(0, 47)", 0);
        Edge.due(x, "path(47, 47)", 0);
        for (int cell = 0; cell < 48; cell++) {
            x.king(cell, (cell % 8 + cell / 8) % 2);
        }
        Edge.due(x, "path(0, 47)", 12);
        Edge.on(x, "<pass 0 999;pass 1 999", "text(0, 9)");
        Edge.due(x, "path(0, 47)", 12 * 999);
        Edge.due(x, "path(7, 40)", 12 * 999);
        Edge.on(x, "<pass 0 0;pass 1 0", "text(0, 9)");
        Edge.due(x, "path(0, 47)", 0);
        // seven steps of one king are cheaper than one of another
        RiverHead y = Edge.after("king(1, 1)", "<pass 1 2;pass 0 1", "text(0, 9)");
        Edge.due(y, "path(0, 2)", 0);
        Edge.due(y, "path(0, 1)", 2);
        Edge.due(y, "path(1, 0)", 1);
        // a way of one king around the corner, beside shorter ones that cost
        RiverHead corner = Edge.after("king(8, 1)", "king(0, 1)", "king(1, 1)", "king(2, 1)", "king(3, 1)");
        Edge.due(corner, "path(8, 2)", 0);
        Edge.due(corner, "path(8, 3)", 0);
        Edge.due(corner, "path(3, 8)", 0);
        Edge.due(corner, "path(8, 4)", 1);
        Edge.due(corner, "path(9, 2)", 1);
        // the land does not wrap around
        RiverHead z = Edge.after("king(6, 1)", "king(15, 1)", "<bar 1", "text(0, 9)");
        Edge.due(z, "path(7, 8)", Due.NONE);
        Edge.due(z, "path(8, 7)", Due.NONE);
    }

    // Promise 31: "BEYOND: no such CELL, goods below 0."
    // Promise 31: "CELLS to which there is a WAY from a CELL for so much at most, as bits."
    private static void pass() {
        Due.promise(31);
        Edge.beyondEnds("pass(#, 0)", 0, 47);
        Edge.allRefused(Due.BEYOND, "pass(0, -1)", "pass(0, " + Edge.LEAST + ")");
        long free = Due.ALL & ~Due.cells(0, 1, 8, 47);
        Edge.taken(free, "pass(9, 0)");
        Edge.taken(free | Due.cells(47), "pass(9, 1)");
        Edge.taken(free | Due.cells(47), "pass(9, 29)");
        Edge.taken(free | Due.cells(1, 47), "pass(9, 30)");
        Edge.taken(free | Due.cells(1, 47), "pass(9, 36)");
        Edge.taken(free | Due.cells(0, 1, 47), "pass(9, 37)");
        Edge.taken(free | Due.cells(0, 1, 47), "pass(9, " + Edge.GREATEST + ")");
        Edge.taken(Due.cells(47), "pass(47, 6)");
        Edge.taken(free | Due.cells(47), "pass(47, 7)");
        Edge.due(new RiverHead(), "pass(0, 0)", Due.ALL);
    }
}
