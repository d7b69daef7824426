/** The boundary cases of promises 37 to 40 and of the claims of section 4, sentence by sentence. */
public final class ClaimsEdgesTest {
    private static final int ALL_CLAIMS = (1 << 20) - 1;

    public static void main(String[] args) {
        claimBeyond();
        claimFull();
        claimOfAnyRow();
        callBeyond();
        callOfNone();
        callOpenDay();
        callFewest();
        fallBeyond();
        fallChangesNothing();
        fallOfStruck();
        fallOfUnknown();
        fallOfAll();
        nextNone();
        nextOfLikeOnes();
        nextLastCell();
        nextOfAll();
        Due.end();
    }

    // Promise 37: "BEYOND: no such ROW, CELL."
    private static void claimBeyond() {
        Due.promise(37);
        Edge.beyondEnds("claim(#, 0)", 0, Edge.RICH_ROWS - 1);
        Edge.beyondEnds("claim(0, #)", 0, 47);
        Edge.due(new RiverHead(), "claim(0, 0)", Due.BEYOND);
        Edge.taken(Edge.RICH_CLAIMS, "claim(0, 0)");
        Edge.taken(Edge.RICH_CLAIMS, "claim(" + (Edge.RICH_ROWS - 1) + ", 47)");
        // ahead of FULL
        String[] full = Edge.times(20 - Edge.RICH_CLAIMS, "claim(0, 0)");
        Edge.refused(Due.BEYOND, "claim(" + Edge.RICH_ROWS + ", 0)", full);
        Edge.refused(Due.BEYOND, "claim(-1, 0)", full);
        Edge.refused(Due.BEYOND, "claim(0, 48)", full);
        Edge.refused(Due.BEYOND, "claim(0, -1)", full);
    }

    // Promise 37: "FULL."
    // Terms 4: "CLAIMS 0, 1, .. (at most 20)"
    private static void claimFull() {
        Due.promise(37);
        Edge.taken(19, "claim(4, 1)", Edge.times(19 - Edge.RICH_CLAIMS, "claim(0, 0)"));
        Edge.refused(Due.FULL, "claim(4, 1)", Edge.times(20 - Edge.RICH_CLAIMS, "claim(0, 0)"));
        // claims that can't be are claims, too
        RiverHead x = Edge.after("row(0, 3, 0, 0)");
        for (int claim = 0; claim < 20; claim++) {
            Edge.due(x, "claim(0, 47)", claim);
        }
        Edge.due(x, "claim(0, 0)", Due.FULL);
        Edge.due(x, "look(4)", 20);
    }

    // Promise 37: "A new CLAIM, for a ROW of a book: its number."
    private static void claimOfAnyRow() {
        Due.promise(37);
        // one that is struck, one that is known on no day, the last of forty
        RiverHead x = Edge.after("row(0, 0, 0, 0)", "row(4, 0, 0, 720)", "strike(0, true)");
        Edge.due(x, "claim(0, 0)", 0);
        Edge.due(x, "claim(1, 47)", 1);
        Edge.on(x, Edge.times(38, "row(2, 0, 0, 0)"));
        Edge.due(x, "claim(39, 7)", 2);
        Edge.due(x, "claim(40, 7)", Due.BEYOND);
        for (int claim = 0; claim < 3; claim++) {
            Edge.due(x, "call(" + claim + ")", 1);
        }
    }

    // Promise 38: "BEYOND."
    private static void callBeyond() {
        Due.promise(38);
        Edge.beyondEnds("call(#)", 0, Edge.RICH_CLAIMS - 1);
        Edge.taken(2, "call(0)");
        Edge.taken(1, "call(2)");
        Edge.due(new RiverHead(), "call(0)", Due.BEYOND);
        RiverHead x = Edge.after("row(0, 0, 0, 0)");
        Edge.on(x, Edge.times(20, "claim(0, 0)"));
        Edge.due(x, "call(19)", 1);
        Edge.due(x, "call(20)", Due.BEYOND);
    }

    // Promise 38: "0 it can't be (or WHERE at its ROW has none), 1 it can be, 2 it must be."
    private static void callOfNone() {
        Due.promise(38);
        // one cell, then none
        RiverHead x = Edge.after("high(47, 4000)", "row(0, 2, 2, 0)", "claim(0, 47)", "claim(0, 0)", "claim(0, 46)");
        Edge.due(x, "call(0)", 2);
        Edge.due(x, "call(1)", 0);
        Edge.due(x, "call(2)", 0);
        x.row(0, 1, 101, 0);
        for (int claim = 0; claim < 3; claim++) {
            Edge.due(x, "call(" + claim + ")", 0);
        }
    }

    // Promise 38: "0 it can't be (or WHERE at its ROW has none), 1 it can be, 2 it must be."
    private static void callFewest() {
        Due.promise(38);
        // two cells: neither must be; of one and of the other alone it must
        RiverHead x = Edge.after("high(0, 4000)", "high(47, 4000)", "row(0, 2, 2, 0)", "claim(0, 0)", "claim(0, 47)");
        Edge.due(x, "call(0)", 1);
        Edge.due(x, "call(1)", 1);
        x.high(0, 0);
        Edge.due(x, "call(0)", 0);
        Edge.due(x, "call(1)", 2);
        Edge.on(x, "high(0, 4000)", "high(47, 0)");
        Edge.due(x, "call(0)", 2);
        Edge.due(x, "call(1)", 0);
    }

    // Promise 38: "What a CLAIM is as of the open DAY:"
    private static void callOpenDay() {
        Due.promise(38);
        RiverHead x = Edge.after("high(9, 4000)", "row(0, 2, 2, 3)", "claim(0, 9)", "claim(0, 10)");
        Edge.due(x, "call(0)", 1);
        Edge.due(x, "call(1)", 1);
        x.tick(2);
        Edge.due(x, "call(0)", 1);
        x.tick(1);
        Edge.due(x, "call(0)", 2);
        Edge.due(x, "call(1)", 0);
        x.strike(0, true);
        Edge.due(x, "call(0)", 1);
        Edge.due(x, "call(1)", 1);
    }

    // Promise 39: "BEYOND."
    private static void fallBeyond() {
        Due.promise(39);
        Edge.beyondEnds("fall(#)", 0, Edge.RICH_ROWS - 1);
        Edge.due(new RiverHead(), "fall(0)", Due.BEYOND);
        // without claims nothing falls
        RiverHead x = Edge.after(Edge.times(40, "row(0, 3, 0, 0)"));
        Edge.due(x, "fall(0)", 0);
        Edge.due(x, "fall(39)", 0);
        Edge.due(x, "fall(40)", Due.BEYOND);
    }

    // Promise 39: "CLAIMS that would be another thing than they are if a ROW were STRUCK (if it is: were not), as a set."
    private static void fallChangesNothing() {
        Due.promise(39);
        RiverHead x = Edge.rich();
        RiverHead twin = Edge.rich();
        // without the march where(0) is cells 9 and 10, where(3) likewise
        Edge.due(x, "fall(1)", 0b11);
        for (int row = 0; row < Edge.RICH_ROWS; row++) {
            x.fall(row);
        }
        for (int row = 0; row < Edge.RICH_ROWS; row++) {
            Due.due("of(" + row + ", 6) behind fall", x.of(row, 6), twin.of(row, 6));
            Due.due("where(" + row + ", 92) behind fall", x.where(row, 92), twin.where(row, 92));
        }
        Due.due("look(2) behind fall", x.look(2), 1);
    }

    // Promise 39: "(if it is: were not)"
    private static void fallOfStruck() {
        Due.promise(39);
        RiverHead x = Edge.after("high(0, 4000)", "row(0, 2, 2, 0)", "claim(0, 0)", "claim(0, 1)");
        Edge.due(x, "fall(0)", 0b11);
        x.strike(0, true);
        Edge.due(x, "fall(0)", 0b11);
        Edge.due(x, "of(0, 6)", 1);
        // a claim that must be only can be; one that can't be still can't
        RiverHead y = Edge.after("high(0, 4000)", "row(0, 2, 2, 0)", "row(0, 3, 0, 0)", "claim(1, 0)", "claim(1, 47)");
        Edge.due(y, "fall(0)", 0b01);
        Edge.due(y, "fall(1)", 0b00);
        y.strike(0, true);
        Edge.due(y, "fall(0)", 0b01);
        Edge.due(y, "fall(1)", 0b10);
    }

    // Promise 39: "CLAIMS that would be another thing than they are"
    // Promise 38: "What a CLAIM is as of the open DAY:"
    private static void fallOfUnknown() {
        Due.promise(39);
        RiverHead x = Edge.after("row(0, 3, 0, 2)", "claim(0, 47)");
        Edge.due(x, "fall(0)", 0);
        x.tick(1);
        Edge.due(x, "fall(0)", 0);
        x.tick(1);
        Edge.due(x, "fall(0)", 1);
        // a struck one that isn't known says nothing if it were not struck
        RiverHead y = Edge.after("row(0, 3, 0, 1)", "strike(0, true)", "claim(0, 47)");
        Edge.due(y, "fall(0)", 0);
        y.tick(1);
        Edge.due(y, "fall(0)", 1);
    }

    // Promise 39: "CLAIMS that would be another thing than they are if a ROW were STRUCK (if it is: were not), as a set."
    private static void fallOfAll() {
        Due.promise(39);
        RiverHead x = Edge.after("row(0, 3, 0, 0)", "row(4, 3, 0, 0)");
        Edge.on(x, Edge.times(19, "claim(0, 47)"));
        Edge.on(x, "claim(1, 47)");
        Edge.due(x, "fall(0)", ALL_CLAIMS & ~(1 << 19));
        Edge.due(x, "fall(1)", 1 << 19);
        // all twenty, from what must be to what only can be
        RiverHead y = Edge.after("high(5, 4000)", "row(0, 2, 2, 0)");
        Edge.on(y, Edge.times(20, "claim(0, 5)"));
        Edge.due(y, "fall(0)", ALL_CLAIMS);
        y.strike(0, true);
        Edge.due(y, "fall(0)", ALL_CLAIMS);
    }

    // Promise 40: "NONE: there are no such CLAIMS."
    private static void nextNone() {
        Due.promise(40);
        Edge.due(new RiverHead(), "next()", Due.NONE);
        Edge.due(Edge.after("row(0, 0, 0, 0)"), "next()", Due.NONE);
        // claims, but none that can or must be: as no book leaves a cell
        Edge.refused(Due.NONE, "next()", "row(0, 1, 9, 0)", "row(3, 1, 9, 0)");
        Edge.due(Edge.after("row(0, 3, 0, 0)", "claim(0, 8)"), "next()", Due.NONE);
        Edge.due(Edge.after("row(0, 3, 0, 0)", "claim(0, 7)"), "next()", 0);
        // as of the open day
        RiverHead x = Edge.after("row(0, 3, 0, 1)", "claim(0, 8)");
        Edge.due(x, "next()", 0);
        x.tick(1);
        Edge.due(x, "next()", Due.NONE);
        x.strike(0, true);
        Edge.due(x, "next()", 0);
    }

    // Promise 40: "of which the lesser number is greatest; of like ones the least CELL."
    private static void nextOfLikeOnes() {
        Due.promise(40);
        // one claim: each cell has a lesser number of 0
        Edge.due(Edge.after("high(47, 4000)", "row(0, 2, 2, 0)", "claim(0, 47)"), "next()", 0);
        // two with the same cells, likewise
        Edge.due(Edge.after("row(0, 3, 500, 0)", "claim(0, 47)", "claim(0, 40)"), "next()", 0);
        // two of lines 4 and 5: the first cell of the first of them parts
        RiverHead x = Edge.after("row(0, 3, 500, 0)", "row(1, 3, 400, 0)", "claim(0, 40)", "claim(1, 39)");
        Edge.due(x, "next()", 32);
        // one that can't be is not among the rest
        x.strike(1, true);
        Edge.due(x, "next()", 0);
        x.strike(1, false);
        Edge.on(x, "claim(1, 0)", "claim(1, 0)");
        Edge.due(x, "next()", 32);
    }

    // Promise 40: "The CELL that parts most: of CLAIMS that can or must be the set with that CELL in WHERE at their ROW, and the rest:"
    private static void nextLastCell() {
        Due.promise(40);
        // any cell, and any but 47
        RiverHead x = Edge.after("high(47, 4000)", "row(0, 0, 0, 0)", "row(1, 2, 9900, 0)", "claim(0, 3)", "claim(1, 3)");
        Edge.due(x, "next()", 47);
        // what must be counts as what can be
        RiverHead y = Edge.after("high(47, 4000)", "row(0, 0, 0, 0)", "row(1, 2, 2, 0)", "claim(0, 3)", "claim(1, 47)");
        Edge.due(y, "call(1)", 2);
        Edge.due(y, "next()", 0);
        y.claim(0, 3);
        y.claim(1, 47);
        Edge.due(y, "next()", 0);
    }

    // Promise 40: "of which the lesser number is greatest; of like ones the least CELL."
    private static void nextOfAll() {
        Due.promise(40);
        // of twenty, nine with line 0, eleven with line 5: nine either way; then ten and ten
        RiverHead x = Edge.after("row(0, 3, 0, 0)", "row(1, 3, 500, 0)", "row(2, 3, 501, 0)");
        Edge.on(x, Edge.times(9, "claim(0, 0)"));
        Edge.on(x, Edge.times(10, "claim(1, 40)"));
        Edge.on(x, "claim(2, 32)");
        // cells 0..7: 9 of 20; 32..39: 1 of 20; 40..47: 11 of 20
        Edge.due(x, "look(4)", 20);
        Edge.due(x, "next()", 0);
        // with line 0 struck its claims have any cell: 0..31: 9, 32..39: 10, 40..47: 20
        x.strike(0, true);
        Edge.due(x, "next()", 32);
    }
}
