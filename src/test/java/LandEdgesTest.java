/** The boundary cases of promises 1 to 10 and of section 1, sentence by sentence. */
public final class LandEdgesTest {
    public static void main(String[] args) {
        richObject();
        newLand();
        newBooks();
        newParties();
        newSheets();
        highBeyond();
        highState();
        water();
        king();
        linkBeyond();
        linkMonths();
        linkKind();
        linkNeighbours();
        linkState();
        linkFull();
        linkOrder();
        monthsAsked();
        leastLink();
        longestRiver();
        shortestRiver();
        joined();
        sourceOfLikeOnes();
        sourceWithoutClause();
        Due.end();
    }

    /** Not of the document: what other tests begin with. */
    private static void richObject() {
        Due.promise(0);
        RiverHead x = Edge.rich();
        int[] due = {3, Edge.RICH_ROWS, 1, 2, Edge.RICH_CLAIMS, 92, Edge.RICH_BYTES, 2};
        for (int what = 0; what < 8; what++) {
            Due.due("look(" + what + ") of a rich object", x.look(what), due[what]);
        }
        Due.due("findings of a rich object", x.status(-1), 0);
    }

    // Promise 1: "HEIGHT, WATER 0 everywhere; no LINKS, ROWS, TEXTS, CLAIMS;"
    // Terms 1: "all 0 at first"
    // Terms 1: "the open one is 0 at first"
    private static void newLand() {
        Due.promise(1);
        RiverHead x = new RiverHead();
        for (int cell = 0; cell < 48; cell++) {
            Edge.due(x, "high(" + cell + ", 1)", 0);
            Edge.due(x, "water(" + cell + ", 1)", 0);
            Edge.due(x, "king(" + cell + ", 1)", 0);
            Edge.due(x, "mouth(" + cell + ", 0)", cell);
        }
        for (int what = 0; what < 8; what++) {
            Edge.due(x, "look(" + what + ")", 0);
        }
        Edge.due(x, "status(-1)", 0);
    }

    // Promise 1: "no WORD means anything; THE TAPE is empty, no image is kept."
    private static void newBooks() {
        Due.promise(1);
        RiverHead x = new RiverHead();
        for (int place = 0; place < 40; place++) {
            x.row(0, 4, 100 * (place / 4) + place % 4, 0);
            Edge.due(x, "fits(" + place + ")", Due.ALL);
        }
        Edge.due(x, "wipe()", 0);
        Edge.due(x, "tear()", 0);
        Edge.due(x, "undo()", Due.NONE);
        RiverHead y = new RiverHead();
        Edge.due(y, "strike(0, true)", Due.BEYOND);
        Edge.due(y, "call(0)", Due.BEYOND);
        Edge.due(y, "why(-1)", Due.NONE);
        Edge.due(y, "next()", Due.NONE);
        Edge.due(y, "book(0, 0)", Due.NONE);
        Edge.due(y, "text(0, 9)", -1);
    }

    // Terms 2: "PARTIES 0 to 4, each in a CELL (0 at first), with GOODS (0 to 999, 0 at first), FEVER (0 at first)"
    // Terms 2: "(told by stop(); all DAYS at first)"
    private static void newParties() {
        Due.promise(1);
        RiverHead x = new RiverHead();
        int[] due = {0, 0, 0, -1, 0, 3599};
        for (int party = 0; party < 5; party++) {
            for (int what = 0; what < 6; what++) {
                Edge.due(x, "party(" + party + ", " + what + ")", due[what]);
            }
        }
    }

    // Terms 6: "or MISSING (at first)"
    private static void newSheets() {
        Due.promise(1);
        RiverHead x = new RiverHead();
        for (int s = 0; s < 4; s++) {
            Edge.due(x, "write(" + s + ", 0, 0)", Due.MISSING);
        }
    }

    // Promise 2: "BEYOND."
    // Terms 1: "CELLS 0 to 47"
    // Terms 1: "HEIGHT (0 to 4000)"
    private static void highBeyond() {
        Due.promise(2);
        Edge.beyondEnds("high(#, 0)", 0, 47);
        Edge.beyondEnds("high(30, #)", 0, 4000);
        Edge.taken(0, "high(0, 4000)");
        Edge.taken(4000, "high(47, 0)");
        RiverHead x = Edge.after("high(0, 4000)", "high(47, 1)");
        Edge.due(x, "high(0, 0)", 4000);
        Edge.due(x, "high(47, 4000)", 1);
        // BEYOND is asked ahead of STATE
        Edge.refused(Due.BEYOND, "high(11, 4001)");
        Edge.refused(Due.BEYOND, "high(9, -1)");
    }

    // Promise 2: "STATE: a LINK would not lead down any more."
    private static void highState() {
        Due.promise(2);
        String[] level = {"high(9, 900)", "high(10, 1000)", "high(10, 850)", "high(11, 900)", "high(18, 900)"};
        String[] up = {"high(9, 0)", "high(10, 4000)", "high(10, 849)", "high(10, 0)", "high(11, 901)", "high(18, 4000)"};
        Edge.allRefused(Due.STATE, level);
        Edge.allRefused(Due.STATE, up);
        Edge.taken(1000, "high(9, 901)");
        Edge.taken(1000, "high(9, 4000)");
        Edge.taken(900, "high(10, 999)");
        Edge.taken(900, "high(10, 851)");
        Edge.taken(800, "high(11, 899)");
        Edge.taken(800, "high(11, 0)");
        Edge.taken(850, "high(18, 899)");
        // a link of one month alone, the last of forty, binds, too
        RiverHead x = Edge.after("high(0, 9)", "high(1, 5)");
        Edge.on(x, Edge.times(39, "link(1, 2, 4095)"));
        Edge.due(x, "high(0, 5)", 9);
        Edge.due(x, "high(0, 6)", 5);
        Edge.due(x, "link(0, 1, 2048)", 39);
        Edge.due(x, "high(0, 5)", Due.STATE);
        Edge.due(x, "high(1, 6)", Due.STATE);
    }

    // Promise 3: "BEYOND."
    // Terms 1: "WATER (0 to 99)"
    private static void water() {
        Due.promise(3);
        Edge.beyondEnds("water(#, 0)", 0, 47);
        Edge.beyondEnds("water(30, #)", 0, 99);
        Edge.taken(0, "water(0, 99)");
        Edge.taken(99, "water(47, 0)");
    }

    // Promise 4: "BEYOND."
    // Terms 1: "a KING (0 to 5)"
    private static void king() {
        Due.promise(4);
        Edge.beyondEnds("king(#, 0)", 0, 47);
        Edge.beyondEnds("king(30, #)", 0, 5);
        Edge.taken(0, "king(0, 5)");
        Edge.taken(5, "king(47, 0)");
    }

    // Promise 5: "BEYOND: no such CELLS, other MONTHS."
    private static void linkBeyond() {
        Due.promise(5);
        Edge.beyondEnds("link(#, 10, 1)", 0, 47);
        Edge.beyondEnds("link(9, #, 1)", 0, 47);
        Edge.beyondEnds("link(9, 10, #)", 1, 4095);
        Edge.allRefused(Due.BEYOND, "link(47, 48, 1)", "link(48, 47, 1)", "link(0, -1, 1)", "link(-1, 0, 1)");
    }

    // Promise 5: "A new LINK from a CELL to another one in MONTHS (a set, not empty): its number."
    // Terms 1: "in some MONTHS (0 to 11)"
    private static void linkMonths() {
        Due.promise(5);
        Edge.refused(Due.BEYOND, "link(9, 10, 0)");
        Edge.refused(Due.BEYOND, "link(9, 10, 4097)");
        Edge.taken(3, "link(9, 10, 1)");
        Edge.taken(3, "link(9, 10, 2048)");
        Edge.taken(3, "link(9, 10, 4095)");
        RiverHead first = Edge.after("high(0, 1)", "link(0, 1, 1)");
        RiverHead last = Edge.after("high(0, 1)", "link(0, 1, 2048)");
        for (int month = 0; month < 12; month++) {
            Edge.due(first, "mouth(0, " + month + ")", month == 0 ? 1 : 0);
            Edge.due(last, "mouth(0, " + month + ")", month == 11 ? 1 : 0);
        }
    }

    // Promise 5: "KIND: they are no NEIGHBOURS."
    private static void linkKind() {
        Due.promise(5);
        Edge.allRefused(Due.KIND, "link(9, 9, 1)", "link(9, 0, 1)", "link(9, 2, 1)", "link(9, 16, 1)", "link(9, 18, 1)",
            "link(9, 11, 1)", "link(9, 25, 1)", "link(47, 40, 1)", "link(47, 7, 1)", "link(47, 45, 1)", "link(47, 31, 1)");
        // the land does not wrap around: the end of a row is not beside the beginning of the next
        for (int y = 0; y < 5; y++) {
            String east = "high(" + (8 * y + 7) + ", 3000)";
            String west = "high(" + (8 * y + 8) + ", 3000)";
            Edge.refused(Due.KIND, "link(" + (8 * y + 7) + ", " + (8 * y + 8) + ", 1)", east);
            Edge.refused(Due.KIND, "link(" + (8 * y + 8) + ", " + (8 * y + 7) + ", 1)", west);
        }
    }

    // Terms 1: "NEIGHBOURS of a CELL, as far as there are such"
    private static void linkNeighbours() {
        Due.promise(5);
        int[][] neighbours = {{0, 1, 8}, {7, 6, 15}, {40, 32, 41}, {47, 39, 46}, {3, 2, 4, 11}, {44, 36, 43, 45},
            {16, 8, 17, 24}, {23, 15, 22, 31}, {27, 19, 28, 35, 26}};
        for (int[] of : neighbours) {
            RiverHead x = Edge.after("high(" + of[0] + ", 1)");
            int links = 0;
            for (int to = 0; to < 48; to++) {
                boolean beside = isAmong(of, to);
                Edge.due(x, "link(" + of[0] + ", " + to + ", 1)", beside ? links : Due.KIND);
                links += beside ? 1 : 0;
            }
        }
    }

    private static boolean isAmong(int[] of, int to) {
        boolean found = false;
        for (int i = 1; i < of.length; i++) {
            found |= of[i] == to;
        }
        return found;
    }

    // Promise 5: "STATE: it doesn't lead down."
    private static void linkState() {
        Due.promise(5);
        Edge.allRefused(Due.STATE, "link(30, 31, 1)", "link(10, 9, 1)", "link(11, 10, 4095)", "link(0, 8, 1)");
        Edge.refused(Due.STATE, "link(30, 31, 1)", "high(30, 7)", "high(31, 7)");
        Edge.refused(Due.STATE, "link(30, 31, 1)", "high(30, 7)", "high(31, 8)");
        Edge.taken(3, "link(30, 31, 1)", "high(30, 8)", "high(31, 7)");
        Edge.taken(3, "link(30, 31, 1)", "high(30, 1)");
    }

    // Promise 5: "FULL."
    // Terms 1: "LINKS 0, 1, .. (at most 40)"
    private static void linkFull() {
        Due.promise(5);
        Edge.taken(39, "link(9, 10, 1)", Edge.times(36, "link(9, 10, 1)"));
        Edge.refused(Due.FULL, "link(9, 10, 1)", Edge.times(37, "link(9, 10, 1)"));
        Edge.refused(Due.FULL, "link(10, 11, 4095)", Edge.times(37, "link(9, 10, 1)"));
    }

    // Terms 0: "Each act tells its findings in the order in which they are asked"
    private static void linkOrder() {
        Due.promise(5);
        String[] full = Edge.times(37, "link(9, 10, 1)");
        Edge.refused(Due.BEYOND, "link(9, 9, 0)");
        Edge.refused(Due.BEYOND, "link(10, 9, 4096)");
        Edge.refused(Due.BEYOND, "link(9, 10, 0)", full);
        Edge.refused(Due.KIND, "link(0, 47, 1)");
        Edge.refused(Due.KIND, "link(9, 11, 1)", full);
        Edge.refused(Due.STATE, "link(10, 9, 1)", full);
    }

    // Promise 6: "BEYOND."
    // Promise 7: "BEYOND."
    // Promise 8: "BEYOND."
    // Promise 10: "BEYOND."
    private static void monthsAsked() {
        String[] acts = {"mouth", "run", "above", "source"};
        int[] promises = {6, 7, 8, 10};
        long[] ofCell0 = {0, 0, 1, 0};
        long[] ofCell47 = {47, 0, 1L << 47, 47};
        for (int i = 0; i < 4; i++) {
            Due.promise(promises[i]);
            Edge.beyondEnds(acts[i] + "(#, 0)", 0, 47);
            Edge.beyondEnds(acts[i] + "(9, #)", 0, 11);
            Edge.taken(ofCell0[i], acts[i] + "(0, 0)");
            Edge.taken(ofCell0[i], acts[i] + "(0, 11)");
            Edge.taken(ofCell47[i], acts[i] + "(47, 0)");
            Edge.taken(ofCell47[i], acts[i] + "(47, 11)");
        }
    }

    // Terms 1: "In a MONTH a CELL runs by the least of its LINKS that run then."
    private static void leastLink() {
        Due.promise(6);
        RiverHead x = Edge.after("high(9, 5)", "link(9, 17, 2)", "link(9, 8, 6)", "link(9, 1, 7)", "link(9, 10, 7)");
        Edge.due(x, "mouth(9, 0)", 1);
        Edge.due(x, "mouth(9, 1)", 17);
        Edge.due(x, "mouth(9, 2)", 8);
        Edge.due(x, "mouth(9, 3)", 9);
        Edge.due(x, "mouth(9, 11)", 9);
    }

    /** Forty links one behind the other, from cell 0 to and fro over the land to cell 47. */
    private static RiverHead snake() {
        RiverHead x = new RiverHead();
        int before = -1;
        for (int i = 0; i <= 40; i++) {
            int y = i / 8;
            int cell = 8 * y + (y % 2 == 0 ? i % 8 : 7 - i % 8);
            x.high(cell, 4000 - i);
            if (before >= 0) {
                x.link(before, cell, 4095);
            }
            before = cell;
        }
        return x;
    }

    // Terms 1: "Its MOUTH: where that leads in the end."
    // Promise 7: "How many LINKS lead from a CELL to its MOUTH in a MONTH."
    // Terms 1: "ABOVE a CELL are those whose way leads to it in the MONTH (itself, too)."
    private static void longestRiver() {
        RiverHead x = snake();
        Due.promise(6);
        Edge.due(x, "look(0)", 40);
        Edge.due(x, "mouth(0, 0)", 47);
        Edge.due(x, "mouth(0, 11)", 47);
        Due.promise(7);
        Edge.due(x, "run(0, 0)", 40);
        Edge.due(x, "run(39, 11)", 1);
        Due.promise(8);
        Edge.due(x, "above(47, 0)", Due.ALL & ~(0x7FL << 40));
        Edge.due(x, "above(0, 0)", 1);
        Due.promise(10);
        Edge.due(x, "source(47, 0)", 0);
        Edge.due(x, "source(39, 11)", 0);
    }

    // Promise 7: "How many LINKS lead from a CELL to its MOUTH in a MONTH."
    // Promise 6: "MOUTH of a CELL in a MONTH."
    // Terms 1: "(itself, too)"
    private static void shortestRiver() {
        RiverHead x = snake();
        Due.promise(6);
        Edge.due(x, "mouth(47, 0)", 47);
        Edge.due(x, "mouth(40, 0)", 40);
        Due.promise(7);
        Edge.due(x, "run(47, 0)", 0);
        Edge.due(x, "run(40, 0)", 0);
        Due.promise(8);
        Edge.due(x, "above(40, 0)", 1L << 40);
        Due.promise(10);
        Edge.due(x, "source(40, 0)", 40);
    }

    // Promise 9: "BEYOND."
    // Promise 9: "MONTHS in which two CELLS have the same MOUTH, as a set."
    private static void joined() {
        Due.promise(9);
        Edge.beyondEnds("joined(#, 0)", 0, 47);
        Edge.beyondEnds("joined(0, #)", 0, 47);
        Edge.taken(4095, "joined(0, 0)");
        Edge.taken(4095, "joined(47, 47)");
        Edge.taken(0, "joined(0, 47)");
        Edge.due(Edge.after("high(0, 1)", "link(0, 1, 1)"), "joined(0, 1)", 1);
        Edge.due(Edge.after("high(0, 1)", "link(0, 1, 2048)"), "joined(1, 0)", 2048);
        Edge.due(Edge.after("high(0, 1)", "link(0, 1, 4095)"), "joined(0, 1)", 4095);
    }

    // Terms 3: "(of like ones the least CELL)"
    private static void sourceOfLikeOnes() {
        Due.promise(10);
        String[] rules = {"longest", "most", "highest"};
        for (String rule : rules) {
            RiverHead x = Edge.after("high(8, 7)", "high(10, 7)", "high(1, 7)", "high(9, 3)", "link(10, 9, 1)",
                "link(8, 9, 1)", "link(1, 9, 1)", "<source " + rule, "text(0, 9)");
            Edge.due(x, "source(9, 0)", 1);
            Edge.due(x, "source(9, 1)", 9);
            x.water(9, 1);
            Edge.due(x, "source(9, 0)", rule.equals("most") ? 9 : 1);
            x.water(10, 2);
            x.high(10, 8);
            Edge.due(x, "source(9, 0)", rule.equals("longest") ? 1 : 10);
        }
    }

    // Terms 3: "without a SOURCE CLAUSE: longest."
    private static void sourceWithoutClause() {
        Due.promise(10);
        RiverHead x = Edge.after("high(0, 4000)", "high(2, 3)", "high(3, 4)", "high(1, 2)", "water(1, 99)", "link(0, 1, 1)",
            "link(2, 1, 1)", "link(3, 2, 1)");
        Edge.due(x, "source(1, 0)", 3);
        // a clause of another year, or of another month, is none
        Edge.on(x, "<source most", "text(1, 9)", "<source highest in 1-11", "text(0, 0)");
        Edge.due(x, "source(1, 0)", 3);
        x.tick(30);
        Edge.due(x, "source(1, 0)", 0);
        x.tick(329);
        Edge.due(x, "source(1, 0)", 0);
        x.tick(1);
        Edge.due(x, "source(1, 0)", 1);
    }
}
