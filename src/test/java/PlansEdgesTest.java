/** The boundary cases of promises 41 to 43, sentence by sentence. */
public final class PlansEdgesTest {
    public static void main(String[] args) {
        planBeyond();
        planKind();
        planSize();
        planNone();
        planOrder();
        planEight();
        planOfLikeOnes();
        planBits();
        planLastRow();
        planOpenDay();
        judgeBeyond();
        judgeMissing();
        judgeSize();
        judgeOrder();
        judgeEmptyBook();
        judgeFullBook();
        judgeNoCell();
        judgeFits();
        judgeSteps();
        judgeLikeTheOneBefore();
        judgeStruck();
        besideBeyond();
        besideWatch();
        besideOpenDay();
        Due.end();
    }

    // Promise 41: "BEYOND: the set is 0, or has others than ROWS."
    private static void planBeyond() {
        Due.promise(41);
        Edge.allRefused(Due.BEYOND, "plan(0)", "plan(" + (1 << Edge.RICH_ROWS) + ")", "plan(" + (1 | 1 << Edge.RICH_ROWS) + ")",
            "plan(-1)", "plan(" + Long.MIN_VALUE + ")", "plan(" + Long.MAX_VALUE + ")", "plan(" + (1L | 1L << 63) + ")",
            "plan(" + (1L | 1L << 32) + ")");
        Edge.taken(0, "plan(1)");
        Edge.taken(0, "plan(" + (1 << Edge.RICH_ROWS - 1) + ")");
        RiverHead none = new RiverHead();
        Edge.due(none, "plan(0)", Due.BEYOND);
        Edge.due(none, "plan(1)", Due.BEYOND);
        // row 39, and what is behind it
        RiverHead x = Edge.after(Edge.times(40, "row(0, 0, 0, 0)"));
        Edge.due(x, "plan(" + (1L << 39) + ")", 0);
        Edge.due(x, "plan(" + (1L << 40) + ")", Due.BEYOND);
        Edge.due(x, "plan(" + (1L << 39 | 1L << 40) + ")", Due.BEYOND);
    }

    // Promise 41: "KIND: they are of several PARTIES."
    private static void planKind() {
        Due.promise(41);
        // rows 0 to 3 are of party 0, 4 and 5 of party 1, 6 of party 4, 7 and 8 of party 3
        Edge.allRefused(Due.KIND, "plan(" + 0b10001 + ")", "plan(" + 0b1100000 + ")", "plan(" + 0b111111111 + ")",
            "plan(" + 0b11000 + ")", "plan(" + 0b101000000 + ")");
        Edge.taken(0, "plan(" + 0b1111 + ")");
        Edge.taken(0, "plan(" + 0b110000 + ")");
        Edge.taken(0, "plan(" + 0b110000000 + ")");
    }

    // Promise 41: "SIZE: more than 8."
    // Promise 41: "of a set of ROWS (at most 8, of one PARTY's book)"
    private static void planSize() {
        Due.promise(41);
        String[] more = Edge.times(9, "row(2, 0, 0, 0)");
        long eight = 0xFFL << Edge.RICH_ROWS;
        long nine = 0x1FFL << Edge.RICH_ROWS;
        Edge.taken(0, "plan(" + eight + ")", more);
        Edge.taken(0, "plan(" + (eight << 1) + ")", more);
        Edge.refused(Due.SIZE, "plan(" + nine + ")", more);
        RiverHead x = Edge.after(Edge.times(40, "row(0, 0, 0, 0)"));
        Edge.due(x, "plan(" + ((1L << 40) - 1) + ")", Due.SIZE);
        Edge.due(x, "plan(" + 0x1FF + ")", Due.SIZE);
        Edge.due(x, "plan(" + (0xFFL << 32) + ")", 0);
        Edge.due(x, "plan(" + (0x1FFL << 31) + ")", Due.SIZE);
    }

    // Promise 41: "NONE: all of them are too few."
    private static void planNone() {
        Due.promise(41);
        String[] torn = {"row(2, 3, 0, 0)", "row(2, 3, 500, 0)", "row(2, 3, 500, 0)"};
        int first = 1 << Edge.RICH_ROWS;
        Edge.refused(Due.NONE, "plan(" + 2 * first + ")", torn);
        Edge.refused(Due.NONE, "plan(" + 4 * first + ")", torn);
        Edge.taken(1, "plan(" + first + ")", torn);
        Edge.taken(3, "plan(" + 6 * first + ")", torn);
        Edge.taken(1, "plan(" + 7 * first + ")", torn);
        // what is struck already can't be struck more
        Edge.refused(Due.NONE, "plan(" + 2 * first + ")", Edge.both(torn, "row(2, 3, 300, 0)", "strike(" + (Edge.RICH_ROWS + 1) + ", true)"));
    }

    // Terms 0: "Each act tells its findings in the order in which they are asked"
    private static void planOrder() {
        Due.promise(41);
        // nine rows of party 2 that leave no cell, none of which is enough
        String[] torn = Edge.both(Edge.times(9, "row(2, 3, 500, 0)"), "row(2, 3, 0, 0)", "row(2, 3, 300, 0)");
        int first = Edge.RICH_ROWS;
        long nine = 0x1FFL << first;
        Edge.refused(Due.NONE, "plan(" + (1L << first) + ")", torn);
        Edge.refused(Due.SIZE, "plan(" + nine + ")", torn);
        Edge.refused(Due.KIND, "plan(" + (nine | 1) + ")", torn);
        Edge.refused(Due.BEYOND, "plan(" + (nine | 1 | 1L << first + 11) + ")", torn);
    }

    // Promise 41: "of a set of ROWS (at most 8, of one PARTY's book)"
    private static void planEight() {
        Due.promise(41);
        // all eight must be struck, then seven, then eight are too few
        RiverHead x = Edge.after("row(0, 3, 0, 0)");
        Edge.on(x, Edge.times(8, "row(0, 3, 500, 0)"));
        Edge.due(x, "plan(" + 0x1FE + ")", 0xFF);
        Edge.due(x, "plan(" + 0x0FE + ")", Due.NONE);
        Edge.due(x, "plan(" + 0x0FF + ")", 1);
        x.strike(8, true);
        Edge.due(x, "plan(" + 0x1FE + ")", 0x7F);
        x.row(0, 3, 500, 0);
        Edge.due(x, "plan(" + 0x1FE + ")", Due.NONE);
    }

    // Promise 41: "of like ones the least as bits (from ROW to ROW of the set, the least one bit 0)."
    private static void planOfLikeOnes() {
        Due.promise(41);
        RiverHead x = Edge.after("row(0, 3, 0, 0)", "row(0, 3, 500, 0)");
        Edge.due(x, "plan(3)", 1);
        Edge.due(x, "plan(2)", 1);
        // three lines: two must go
        x.row(0, 3, 300, 0);
        Edge.due(x, "plan(7)", 0b011);
        Edge.due(x, "plan(6)", 0b11);
        Edge.due(x, "plan(5)", 0b11);
        Edge.due(x, "plan(1)", Due.NONE);
        // fewer ones go ahead of less bits: one of bit 2 ahead of two of bits 0 and 1
        RiverHead y = Edge.after("row(0, 3, 0, 0)", "row(0, 3, 0, 0)", "row(0, 3, 500, 0)");
        Edge.due(y, "plan(7)", 0b100);
    }

    // Promise 41: "(from ROW to ROW of the set, the least one bit 0)"
    private static void planBits() {
        Due.promise(41);
        // rows 0 and 39 are of party 0, those between of party 1
        RiverHead x = Edge.after("row(0, 3, 0, 0)");
        Edge.on(x, Edge.times(37, "row(1, 0, 0, 0)"));
        Edge.on(x, "row(0, 3, 100, 0)", "row(0, 3, 100, 0)");
        Edge.due(x, "plan(" + (1L << 39 | 1L << 38) + ")", 0b11);
        Edge.due(x, "plan(" + (1L << 39 | 1L << 38 | 1) + ")", 0b001);
        x.strike(39, true);
        Edge.due(x, "plan(" + (1L << 39 | 1L << 38) + ")", 0b01);
        x.strike(38, true);
        x.strike(39, false);
        Edge.due(x, "plan(" + (1L << 39 | 1L << 38) + ")", 0b10);
    }

    // Promise 41: "would leave a CELL in WHERE at the last ROW of that book"
    private static void planLastRow() {
        Due.promise(41);
        // a cell is there already: none is struck
        Edge.due(Edge.after("row(0, 1, 409, 0)"), "plan(1)", 0);
        // the last row, the march, itself leads out
        RiverHead x = Edge.after("row(0, 3, 0, 0)", "row(0, 1, 1, 0)");
        Edge.due(x, "plan(3)", 0b01);
        Edge.due(x, "plan(2)", 0b1);
        // a march of more steps than the land has leaves none whatever else is struck
        x.row(0, 1, 9, 0);
        Edge.due(x, "plan(3)", Due.NONE);
        Edge.due(x, "plan(7)", 0b101);
        // other books do not matter
        RiverHead y = Edge.after("row(0, 3, 0, 0)", "row(1, 1, 9, 0)");
        Edge.due(y, "plan(1)", 0);
        Edge.due(y, "plan(2)", 1);
    }

    // Promise 41: "as of the open DAY"
    private static void planOpenDay() {
        Due.promise(41);
        RiverHead x = Edge.after("row(0, 3, 0, 0)", "row(0, 3, 500, 2)");
        Edge.due(x, "plan(2)", 0);
        x.tick(1);
        Edge.due(x, "plan(2)", 0);
        x.tick(1);
        Edge.due(x, "plan(2)", 1);
        // by the watch as it is
        x.stop(0, 0);
        Edge.due(x, "plan(2)", 0);
    }

    // Promise 42: "BEYOND: no such PARTY, sheet."
    private static void judgeBeyond() {
        Due.promise(42);
        Edge.beyondEnds("judge(#, 2)", 0, 4);
        Edge.beyondEnds("judge(3, #)", 0, 3);
        // sheet 2 has two numbers, 99 and 0; the book of party 3 two rows
        Edge.taken(0, "judge(3, 2)");
        Edge.taken(0, "judge(1, 2)");
    }

    // Promise 42: "MISSING."
    private static void judgeMissing() {
        Due.promise(42);
        Edge.allRefused(Due.MISSING, "judge(0, 3)", "judge(4, 3)");
        Edge.refused(Due.MISSING, "judge(3, 2)", "sheet(2, 0, 2)");
        // an empty book and a sheet that is missing
        Edge.refused(Due.MISSING, "judge(2, 3)");
        for (int s = 0; s < 4; s++) {
            Edge.due(new RiverHead(), "judge(0, " + s + ")", Due.MISSING);
        }
    }

    // Promise 42: "SIZE: it has not just as many."
    private static void judgeSize() {
        Due.promise(42);
        Edge.refused(Due.SIZE, "judge(3, 3)", "sheet(3, 8, 1)");
        Edge.refused(Due.SIZE, "judge(3, 3)", "sheet(3, 8, 3)");
        Edge.taken(0, "judge(3, 3)", "sheet(3, 8, 2)");
        Edge.refused(Due.SIZE, "judge(2, 3)", "sheet(3, 8, 1)");
        Edge.refused(Due.SIZE, "judge(3, 3)", "sheet(3, 8, 0)");
        Edge.refused(Due.SIZE, "judge(3, 3)", "sheet(3, 8, 40)");
        // struck rows are rows of the book
        Edge.refused(Due.SIZE, "judge(4, 3)", "sheet(3, 8, 0)");
        Edge.taken(1, "judge(4, 3)", "sheet(3, 8, 1)");
    }

    // Terms 0: "Each act tells its findings in the order in which they are asked"
    private static void judgeOrder() {
        Due.promise(42);
        Edge.refused(Due.BEYOND, "judge(5, 3)");
        Edge.refused(Due.BEYOND, "judge(5, 4)");
        Edge.refused(Due.BEYOND, "judge(5, 0)");
        Edge.refused(Due.MISSING, "judge(3, 3)");
    }

    // Promise 42: "how many ROWS there are if all go."
    private static void judgeEmptyBook() {
        Due.promise(42);
        Edge.taken(0, "judge(2, 3)", "sheet(3, 64, 0)");
        Edge.due(Edge.after("sheet(0, 8, 0)"), "judge(0, 0)", 0);
        Edge.due(Edge.after("sheet(0, 8, 0)", "row(1, 0, 0, 0)"), "judge(0, 0)", 0);
    }

    // Promise 42: "how many ROWS there are if all go."
    // Promise 42: "A sheet tells a CELL for each ROW of a PARTY's book, in order:"
    private static void judgeFullBook() {
        Due.promise(42);
        RiverHead x = Edge.after(Edge.times(40, "row(4, 0, 0, 0)"));
        x.sheet(3, 8, 40);
        Edge.due(x, "judge(4, 3)", 40);
        x.write(3, 39, 1);
        Edge.due(x, "judge(4, 3)", 39);
        x.write(3, 0, 1);
        Edge.due(x, "judge(4, 3)", 1);
        x.write(3, 0, 48);
        Edge.due(x, "judge(4, 3)", 0);
    }

    // Promise 42: "the number (from 0) of the first one that doesn't go: no CELL"
    private static void judgeNoCell() {
        Due.promise(42);
        int[] bits = {8, 16, 64};
        for (int width : bits) {
            RiverHead x = Edge.after("row(0, 0, 0, 0)", "sheet(0, " + width + ", 1)");
            long[] none = {48, -1, 127, -128, Byte.MAX_VALUE, Long.MAX_VALUE, (1L << width - 1) + 5};
            for (long cell : none) {
                x.write(0, 0, cell);
                Edge.due(x, "judge(0, 0)", 0);
            }
            for (int cell = 0; cell < 48; cell++) {
                x.write(0, 0, cell);
                Edge.due(x, "judge(0, 0)", 1);
            }
        }
        // a number whose lowest bits alone are a cell
        RiverHead y = Edge.after("row(0, 0, 0, 0)", "sheet(0, 64, 1)");
        for (long cell : new long[] {256, 1L << 16, 1L << 32, 1L << 48, 64, 1L << 63, 64 + 5}) {
            y.write(0, 0, cell);
            Edge.due(y, "judge(0, 0)", 0);
        }
    }

    // Promise 42: "one that the ROW doesn't FIT"
    private static void judgeFits() {
        Due.promise(42);
        RiverHead x = Edge.after("row(0, 3, 201, 0)", "sheet(0, 8, 1)");
        int[] cells = {7, 8, 31, 32};
        int[] due = {0, 1, 1, 0};
        for (int i = 0; i < 4; i++) {
            x.write(0, 0, cells[i]);
            Edge.due(x, "judge(0, 0)", due[i]);
        }
        // by the watch as it is
        x.stop(0, 0);
        Edge.due(x, "judge(0, 0)", 1);
    }

    // Promise 42: "or to which its steps do not lead from the one before (a MARCH; the first one: from any)"
    private static void judgeSteps() {
        Due.promise(42);
        // the first one: seven steps east lead to the last column, eight nowhere, none anywhere
        RiverHead x = Edge.after("row(0, 1, 107, 0)", "sheet(0, 8, 1)");
        for (int cell = 0; cell < 48; cell++) {
            x.write(0, 0, cell);
            Edge.due(x, "judge(0, 0)", cell % 8 == 7 ? 1 : 0);
        }
        RiverHead far = Edge.after("row(0, 1, 108, 0)", "row(1, 1, 100, 0)", "sheet(0, 8, 1)");
        for (int cell : new int[] {0, 7, 8, 40, 47}) {
            far.write(0, 0, cell);
            Edge.due(far, "judge(0, 0)", 0);
            Edge.due(far, "judge(1, 0)", 1);
        }
        // a later one: from the one before, and the land does not wrap around
        RiverHead y = Edge.after("row(0, 0, 0, 0)", "row(0, 1, 101, 0)", "row(1, 0, 0, 0)", "row(1, 1, 402, 0)", "sheet(0, 8, 2)");
        int[][] steps = {{0, 1, 2, 2}, {0, 0, 1, 2}, {0, 2, 1, 2}, {7, 8, 1, 1}, {6, 7, 2, 2}, {8, 7, 1, 1}, {9, 25, 1, 2}, {9, 26, 1, 1},
            {9, 18, 1, 2}};
        for (int[] step : steps) {
            y.write(0, 0, step[0]);
            y.write(0, 1, step[1]);
            Edge.due(y, "judge(0, 0)", step[2]);
            Edge.due(y, "judge(1, 0)", step[3]);
        }
    }

    // Promise 42: "or another one than the one before (no MARCH, behind the first)"
    private static void judgeLikeTheOneBefore() {
        Due.promise(42);
        int[] kinds = {0, 3, 5, 6, 4, 2};
        int[] numbers = {0, 205, 0, 1, 0, 9909};
        for (int i = 0; i < kinds.length; i++) {
            RiverHead x = Edge.after("row(0, 1, 400, 0)", "row(0, " + kinds[i] + ", " + numbers[i] + ", 0)", "sheet(0, 8, 2)");
            Edge.due(x, "judge(0, 0)", 2);
            x.write(0, 1, 1);
            Edge.due(x, "judge(0, 0)", 1);
            x.write(0, 0, 1);
            Edge.due(x, "judge(0, 0)", 2);
        }
    }

    // Promise 42: "STRUCK ones and those not KNOWN on the open DAY are asked for nothing but that it is a CELL, and one like the one before;"
    private static void judgeStruck() {
        Due.promise(42);
        // struck, and known from day 2 on: a star of line 5 ahead, a step east behind
        RiverHead x = Edge.after("row(0, 3, 500, 0)", "row(0, 1, 101, 2)", "strike(0, true)", "sheet(0, 8, 2)");
        Edge.due(x, "judge(0, 0)", 2);
        x.write(0, 1, 1);
        Edge.due(x, "judge(0, 0)", 1);
        x.tick(1);
        Edge.due(x, "judge(0, 0)", 1);
        x.tick(1);
        Edge.due(x, "judge(0, 0)", 2);
        x.write(0, 1, 0);
        Edge.due(x, "judge(0, 0)", 1);
        x.strike(1, true);
        Edge.due(x, "judge(0, 0)", 2);
        x.write(0, 1, 48);
        Edge.due(x, "judge(0, 0)", 1);
        x.write(0, 0, 48);
        Edge.due(x, "judge(0, 0)", 0);
        x.write(0, 0, 47);
        x.write(0, 1, 47);
        Edge.due(x, "judge(0, 0)", 2);
        x.strike(0, false);
        Edge.due(x, "judge(0, 0)", 2);
    }

    // Promise 43: "BEYOND."
    private static void besideBeyond() {
        Due.promise(43);
        Edge.beyondEnds("beside(#)", 0, Edge.RICH_ROWS - 1);
        Edge.taken(1, "beside(0)");
        Edge.taken(48, "beside(6)");
        Edge.due(new RiverHead(), "beside(0)", Due.BEYOND);
        RiverHead x = Edge.after(Edge.times(40, "row(0, 0, 0, 0)"));
        Edge.due(x, "beside(39)", 48);
        Edge.due(x, "beside(40)", Due.BEYOND);
        Edge.due(Edge.after("row(0, 1, 9, 0)"), "beside(0)", 0);
    }

    // Promise 43: "if the WATCH of its PARTY were right on all DAYS."
    private static void besideWatch() {
        Due.promise(43);
        RiverHead x = Edge.after("row(0, 3, 0, 0)", "row(1, 3, 0, 0)", "stop(0, 0)", "stop(1, 1)");
        Edge.due(x, "count(0, 0)", 48);
        Edge.due(x, "beside(0)", 8);
        Edge.due(x, "count(1, 0)", 8);
        Edge.due(x, "beside(1)", 8);
        // the watch stays as it is
        Edge.due(x, "party(0, 5)", -1);
        Edge.due(x, "party(1, 5)", 0);
        Edge.due(x, "count(0, 0)", 48);
        // on the last day, too
        RiverHead last = Edge.after(Edge.both(Edge.days(3599), "row(0, 3, 500, 0)", "stop(0, 3599)"));
        Edge.due(last, "count(0, 3599)", 48);
        Edge.due(last, "beside(0)", 8);
    }

    // Promise 43: "How many CELLS were in WHERE at a ROW, as of the open DAY"
    private static void besideOpenDay() {
        Due.promise(43);
        RiverHead x = Edge.after("row(0, 3, 0, 2)", "stop(0, 0)");
        Edge.due(x, "beside(0)", 48);
        x.tick(1);
        Edge.due(x, "beside(0)", 48);
        x.tick(1);
        Edge.due(x, "beside(0)", 8);
        x.strike(0, true);
        Edge.due(x, "beside(0)", 48);
    }
}
