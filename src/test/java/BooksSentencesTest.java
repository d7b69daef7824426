/** Sentences that no boundary case quotes: section 2, promises 11, 14, 16 to 18, 21, 22 and 24. */
public final class BooksSentencesTest {
    private static final long LINE = 0xFFL;
    private static final long COLUMN = 0x010101010101L;

    public static void main(String[] args) {
        partiesHaveTheirOwn();
        goodsBecome();
        partyTells();
        numbersOfKinds();
        newRow();
        asOneOfAKind();
        ofEachKind();
        fitsByKind();
        fitsByWordAndTongue();
        fitsAsBits();
        whereInOrder();
        whereStepsLead();
        whereItFits();
        whereAsOfADay();
        same();
        Due.end();
    }

    // Terms 2: "PARTIES 0 to 4, each in a CELL (0 at first), with GOODS (0 to 999, 0 at first), FEVER (0 at first), perhaps GOING to a CELL."
    private static void partiesHaveTheirOwn() {
        Due.promise(14);
        RiverHead x = new RiverHead();
        for (int party = 0; party < 5; party++) {
            Edge.due(x, "set(" + party + ", " + (10 + party) + ")", 0);
            Edge.due(x, "goods(" + party + ", " + (100 + party) + ")", 0);
            // four lines down, two columns to the west
            Edge.due(x, "go(" + party + ", " + (40 + party) + ")", 6);
        }
        x.set(2, 47);
        for (int party = 0; party < 5; party++) {
            Edge.due(x, "party(" + party + ", 0)", party == 2 ? 47 : 10 + party);
            Edge.due(x, "party(" + party + ", 1)", 100 + party);
            Edge.due(x, "party(" + party + ", 2)", 0);
            Edge.due(x, "party(" + party + ", 3)", party == 2 ? -1 : 40 + party);
        }
    }

    // Promise 11: "GOODS of a PARTY become n: what they were."
    private static void goodsBecome() {
        Due.promise(11);
        RiverHead x = new RiverHead();
        Edge.due(x, "goods(1, 7)", 0);
        Edge.due(x, "goods(1, 7)", 7);
        Edge.due(x, "goods(1, 500)", 7);
        Edge.due(x, "party(1, 1)", 500);
        Edge.due(x, "tick(10)", 10);
        Edge.due(x, "goods(1, 3)", 490);
        Edge.due(x, "goods(0, 0)", 0);
        Edge.due(x, "goods(2, 0)", 0);
        Edge.due(x, "party(1, 1)", 3);
    }

    // Promise 14: "Of a PARTY: what 0 its CELL, 1 GOODS, 2 FEVER, 3 where it is GOING (-1: nowhere), 4 ROWS of its book"
    private static void partyTells() {
        Due.promise(14);
        // five days of month 3 in a lake
        RiverHead x = Edge.after("water(20, 50)", "set(1, 20)", "goods(1, 500)", "row(1, 0, 0, 0)", "row(1, 0, 0, 0)", "tick(95)");
        int[] due = {20, 405, 5, -1, 2, 3599};
        for (int what = 0; what < 6; what++) {
            Edge.due(x, "party(1, " + what + ")", due[what]);
            Edge.due(x, "party(0, " + what + ")", what == 3 ? -1 : what == 5 ? 3599 : 0);
        }
        Edge.on(x, "go(1, 22)", "stop(1, 50)", "tick(1)");
        int[] then = {21, 404, 5, 22, 2, 49};
        for (int what = 0; what < 6; what++) {
            Edge.due(x, "party(1, " + what + ")", then[what]);
        }
    }

    // Terms 2: "of a kind, with numbers a and b: 0 ROW (a, b 0 to 99);"
    private static void numbersOfKinds() {
        Due.promise(16);
        RiverHead x = new RiverHead();
        // a and b are not mixed up, whatever the kind
        int[] kinds = {0, 1, 2, 3, 4, 5, 6};
        int[] a = {7, 3, 61, 1, 8, 33, 6};
        int[] b = {70, 5, 4, 2, 0, 4, 3};
        for (int row = 0; row < 7; row++) {
            Edge.due(x, "row(0, " + kinds[row] + ", " + (100 * a[row] + b[row]) + ", 0)", row);
        }
        for (int row = 0; row < 7; row++) {
            Edge.due(x, "of(" + row + ", 0)", kinds[row]);
            Edge.due(x, "of(" + row + ", 1)", a[row]);
            Edge.due(x, "of(" + row + ", 2)", b[row]);
        }
    }

    // Promise 16: "A new ROW in the book of a PARTY, of the open DAY, KNOWN from late DAYS (0 to 720) on; numbers: 100 * a + b: its number."
    private static void newRow() {
        Due.promise(16);
        RiverHead x = Edge.after("tick(40)");
        Edge.due(x, "row(3, 2, 1205, 10)", 0);
        int[] due = {2, 12, 5, 3, 40, 50, 0};
        for (int what = 0; what < 7; what++) {
            Edge.due(x, "of(0, " + what + ")", due[what]);
        }
        Edge.due(x, "known(49)", 0);
        Edge.due(x, "known(50)", 1);
        x.tick(1);
        Edge.due(x, "row(1, 0, 9, 0)", 1);
        int[] then = {0, 0, 9, 1, 41, 41, 0};
        for (int what = 0; what < 7; what++) {
            Edge.due(x, "of(1, " + what + ")", then[what]);
        }
        Edge.due(x, "party(3, 4)", 1);
        Edge.due(x, "party(1, 4)", 1);
        Edge.due(x, "party(0, 4)", 0);
        // the first one is as it was
        Edge.due(x, "of(0, 4)", 40);
        Edge.due(x, "of(0, 5)", 50);
    }

    // Promise 17: "A ROW as one of a kind: its number."
    private static void asOneOfAKind() {
        Due.promise(17);
        RiverHead x = Edge.after("row(0, 0, 0, 0)", "row(0, 1, 0, 0)", "row(0, 2, 0, 0)", "row(0, 3, 0, 0)", "row(0, 4, 0, 0)",
            "row(0, 5, 0, 0)", "row(0, 6, 1, 0)");
        // a row of this kind (down) as one of that (across): all are rows, a copied one is a drawn one, too
        String[] is = {"x......", "xx.....", "x.x....", "x..x...", "x...x..", "x....x.", "x....xx"};
        for (int row = 0; row < 7; row++) {
            for (int kind = 0; kind < 7; kind++) {
                Edge.due(x, "as(" + row + ", " + kind + ")", is[row].charAt(kind) == 'x' ? row : Due.KIND);
            }
        }
    }

    // Promise 18: "Of a ROW: what 0 kind, 1 a, 2 b, 3 its PARTY, 4 its DAY, 5 the DAY from which it is KNOWN, 6 1 if it is STRUCK, else 0, 7 its MAP (DRAWN),"
    private static void ofEachKind() {
        Due.promise(18);
        RiverHead x = Edge.after("tick(3)", "row(4, 0, 1234, 0)", "row(3, 1, 307, 1)", "row(2, 2, 8003, 2)", "row(1, 3, 405, 3)",
            "row(0, 4, 903, 4)", "row(4, 5, 4108, 5)", "row(3, 6, 2907, 720)", "strike(1, true)", "strike(6, true)");
        int no = Due.KIND;
        int[][] due = {
            {0, 12, 34, 4, 3, 3, 0, no, no, no}, {1, 3, 7, 3, 3, 4, 1, no, no, no}, {2, 80, 3, 2, 3, 5, 0, no, 710, 810},
            {3, 4, 5, 1, 3, 6, 0, no, no, no}, {4, 9, 3, 0, 3, 7, 0, no, no, no}, {5, 41, 8, 4, 3, 8, 0, 8, no, no},
            {6, 29, 7, 3, 3, 723, 1, 7, no, no}};
        for (int row = 0; row < 7; row++) {
            for (int what = 0; what < 10; what++) {
                Edge.due(x, "of(" + row + ", " + what + ")", due[row][what]);
            }
        }
    }

    // Terms 2: "A ROW FITS a CELL: a BOIL if HEIGHT is not above 40 times what HEAT is less than 99, and 20 and 10 times AIR more"
    private static void fitsByKind() {
        Due.promise(21);
        // heat 89 is 10 less than 99: 400, and with air 3 it is off by 50 at most
        RiverHead x = Edge.after("high(1, 349)", "high(2, 350)", "high(3, 400)", "high(4, 450)", "high(5, 451)", "row(0, 2, 8903, 0)",
            "row(0, 2, 8900, 0)");
        Edge.due(x, "fits(0)", Due.cells(2, 3, 4));
        Edge.due(x, "fits(1)", Due.cells(3));
        // neither the book nor the day, nor that it is struck, changes what it fits
        Edge.on(x, "strike(0, true)", "row(0, 1, 9, 0)", "row(1, 2, 8903, 700)");
        Edge.due(x, "fits(0)", Due.cells(2, 3, 4));
        Edge.due(x, "fits(3)", Due.cells(2, 3, 4));
    }

    // Terms 2: "a TOLD one by what WORD means in TONGUE: 0 nothing (any CELL FITS), 1 a river"
    private static void fitsByWordAndTongue() {
        Due.promise(21);
        RiverHead x = Edge.after("water(3, 50)", "high(4, 2000)", "high(6, 1)", "link(6, 7, 1)", "mean(0, 1, 1)", "mean(1, 1, 2)",
            "mean(0, 2, 3)", "row(0, 4, 100, 0)", "row(0, 4, 101, 0)", "row(0, 4, 200, 0)", "row(0, 4, 201, 0)", "row(0, 4, 102, 0)");
        Edge.due(x, "fits(0)", Due.cells(6));
        Edge.due(x, "fits(1)", Due.cells(3));
        Edge.due(x, "fits(2)", Due.cells(4));
        Edge.due(x, "fits(3)", Due.ALL);
        Edge.due(x, "fits(4)", Due.ALL);
        // what it means now, not what it meant when it was told
        x.mean(0, 1, 3);
        Edge.due(x, "fits(0)", Due.cells(4));
        Edge.due(x, "fits(1)", Due.cells(3));
    }

    // Promise 21: "CELLS that a ROW FITS, as bits."
    private static void fitsAsBits() {
        Due.promise(21);
        RiverHead x = Edge.after("high(0, 4000)", "high(31, 3930)", "high(32, 4000)", "high(47, 3920)", "row(0, 2, 2, 0)", "row(0, 3, 401, 0)",
            "row(0, 0, 0, 0)");
        Edge.due(x, "fits(0)", 1L | 1L << 31 | 1L << 32 | 1L << 47);
        Edge.due(x, "fits(1)", 0xFFFFFF000000L);
        Edge.due(x, "fits(2)", 0xFFFFFFFFFFFFL);
    }

    // Terms 2: "WHERE a PARTY can have been at a ROW of its book, as of a DAY: of ROWS of the book that are KNOWN on that DAY and not STRUCK (the one asked for among them or not), in order: a PARTY is in any CELL ahead of the first;"
    private static void whereInOrder() {
        Due.promise(22);
        // a star of line 0, two steps south, then any one step, then a star of line 3 that is known later
        RiverHead x = Edge.after("row(0, 3, 0, 0)", "row(1, 3, 500, 0)", "row(0, 1, 202, 0)", "row(0, 1, 401, 0)", "row(0, 3, 300, 5)");
        Edge.due(x, "where(0, 4)", LINE);
        Edge.due(x, "where(2, 4)", LINE << 16);
        Edge.due(x, "where(3, 4)", LINE << 8 | LINE << 16 | LINE << 24);
        Edge.due(x, "where(4, 4)", LINE << 8 | LINE << 16 | LINE << 24);
        Edge.due(x, "where(0, 5)", LINE);
        Edge.due(x, "where(2, 5)", LINE << 16);
        Edge.due(x, "where(3, 5)", LINE << 24);
        Edge.due(x, "where(4, 5)", LINE << 24);
        // the book of another party is another book
        Edge.due(x, "where(1, 5)", LINE << 40);
        // struck, the first one says nothing, and is asked for where it stands: ahead of the steps
        x.strike(0, true);
        Edge.due(x, "where(0, 5)", LINE | LINE << 8 | LINE << 16);
        Edge.due(x, "where(2, 5)", LINE << 16 | LINE << 24 | LINE << 32);
        Edge.due(x, "where(0, 4)", LINE | LINE << 8 | LINE << 16 | LINE << 24);
    }

    // Terms 2: "behind a MARCH it is where its steps lead (b steps by way a, all of them within the land; any: each of b steps to some NEIGHBOUR or none);"
    private static void whereStepsLead() {
        Due.promise(22);
        // from cell 27 (x 3, y 3) two steps by each way, and by any
        long[] ends = {Due.cells(11), Due.cells(29), Due.cells(43), Due.cells(25),
            Due.cells(27, 19, 28, 35, 26, 11, 20, 29, 36, 43, 34, 25, 18)};
        for (int way = 0; way <= 4; way++) {
            RiverHead x = Edge.after("high(27, 4000)", "row(0, 2, 2, 0)", "row(0, 1, " + (100 * way + 2) + ", 0)");
            Edge.due(x, "where(0, 0)", Due.cells(27));
            Edge.due(x, "where(1, 0)", ends[way]);
            Edge.due(x, "count(1, 0)", way == 4 ? 13 : 1);
        }
        // two marches, one behind the other: five steps east, then one north
        RiverHead y = Edge.after("row(0, 1, 105, 0)", "row(0, 1, 1, 0)");
        long east = COLUMN << 5 | COLUMN << 6 | COLUMN << 7;
        Edge.due(y, "where(0, 0)", east & ~LINE);
        Edge.due(y, "where(1, 0)", east & ~(LINE << 40));
    }

    // Terms 2: "at (behind the steps of) each ROW it is in a CELL that it FITS."
    private static void whereItFits() {
        Due.promise(22);
        // two steps west lead to cell 20, the only one so high
        RiverHead x = Edge.after("high(20, 4000)", "row(0, 0, 0, 0)", "row(0, 1, 302, 0)", "row(0, 2, 2, 0)");
        Edge.due(x, "where(0, 0)", Due.cells(22));
        Edge.due(x, "where(1, 0)", Due.cells(20));
        Edge.due(x, "where(2, 0)", Due.cells(20));
        // rows without steps between are all of one cell: a lake in line 4
        RiverHead y = Edge.after("mean(0, 0, 2)", "water(33, 60)", "water(9, 60)", "row(0, 4, 0, 0)", "row(0, 3, 400, 0)", "row(0, 5, 3, 0)");
        for (int row = 0; row < 3; row++) {
            Edge.due(y, "where(" + row + ", 0)", Due.cells(33));
        }
    }

    // Promise 22: "WHERE its PARTY can have been at a ROW, as of a DAY, as bits."
    private static void whereAsOfADay() {
        Due.promise(22);
        RiverHead x = Edge.after("row(2, 3, 1, 0)", "row(2, 3, 201, 10)", "row(2, 3, 101, 20)", "row(2, 3, 100, 30)");
        long[] due = {LINE | LINE << 8, LINE << 8, LINE << 8, LINE << 8};
        int[] days = {9, 10, 29, 30};
        for (int i = 0; i < 4; i++) {
            for (int row = 0; row < 4; row++) {
                Edge.due(x, "where(" + row + ", " + days[i] + ")", due[i]);
            }
        }
        // a day that is not open any more, or not yet, is asked for as the open one is
        x.tick(100);
        Edge.due(x, "where(0, 0)", LINE | LINE << 8);
        Edge.due(x, "where(0, 100)", LINE << 8);
        Edge.due(x, "where(0, 3000)", LINE << 8);
        // a row of today is known on no day before
        Edge.due(x, "row(2, 3, 500, 0)", 4);
        Edge.due(x, "where(4, 99)", LINE << 8);
        Edge.due(x, "where(4, 100)", 0);
    }

    // Promise 24: "Of two ROWS of one PARTY's book: 1 if it can have been in the same CELL at both (WHERE of both, as of the open DAY, has one), else 0."
    private static void same() {
        Due.promise(24);
        // three steps east: from columns 0 to 4 to columns 3 to 7; four: from 0 to 3 to 4 to 7
        RiverHead x = Edge.after("row(0, 0, 0, 0)", "row(0, 1, 103, 0)", "row(1, 0, 0, 0)", "row(1, 1, 104, 0)");
        Edge.due(x, "same(0, 1)", 1);
        Edge.due(x, "same(1, 0)", 1);
        Edge.due(x, "same(2, 3)", 0);
        Edge.due(x, "same(3, 2)", 0);
        Edge.due(x, "same(3, 3)", 1);
        Edge.due(x, "same(0, 2)", Due.KIND);
        // a march that is struck has no steps
        x.strike(3, true);
        Edge.due(x, "same(2, 3)", 1);
    }
}
