/** The boundary cases of promises 16 to 24 and of the rows of section 2, sentence by sentence. */
public final class RowsEdgesTest {
    private static final long FIRST_LINE = 0xFFL;
    private static final long FIRST_COLUMN = 0x010101010101L;

    public static void main(String[] args) {
        rowBeyond();
        rowNumbers();
        rowFull();
        rowKnown();
        asBeyond();
        asKind();
        ofBeyond();
        ofKind();
        ofHeights();
        strike();
        mean();
        fitsBeyond();
        fitsBoil();
        fitsStar();
        fitsStarByWatch();
        fitsTold();
        fitsOthers();
        whereBeyond();
        whereKnown();
        whereStruck();
        whereAhead();
        marchToTheEdge();
        marchAnyWay();
        marchDoesNotWrap();
        whereBehind();
        fullBook();
        count();
        sameFindings();
        sameOfNone();
        Due.end();
    }

    // Promise 16: "BEYOND: no such PARTY, kind, late, or numbers are not as told."
    private static void rowBeyond() {
        Due.promise(16);
        Edge.beyondEnds("row(#, 0, 0, 0)", 0, 4);
        Edge.beyondEnds("row(0, #, 1, 0)", 0, 6);
        Edge.beyondEnds("row(0, 0, 0, #)", 0, 720);
        // ahead of FULL
        String[] full = Edge.times(31, "row(2, 0, 0, 0)");
        for (String call : new String[] {"row(5, 0, 0, 0)", "row(0, 7, 0, 0)", "row(0, 0, 0, 721)", "row(0, 3, 600, 0)"}) {
            Edge.refused(Due.BEYOND, call, full);
        }
    }

    // Terms 2: "0 ROW (a, b 0 to 99)"
    // Terms 2: "1 MARCH under ROW (by way a, 0 to 3, or 4: any; b steps, 0 to 9)"
    // Terms 2: "2 BOIL under ROW (a HEAT, 0 to 99; b AIR, 0 to 9)"
    // Terms 2: "3 STAR under ROW (a, 0 to 5; b, 0 to 5)"
    // Terms 2: "4 TOLD under ROW (a WORD, 0 to 9; b TONGUE, 0 to 3)"
    // Terms 2: "5 DRAWN under ROW (a CELL a, on MAP b, 0 to 8)"
    // Terms 2: "6 COPIED under DRAWN (likewise; its MAP has a MAP before it)"
    private static void rowNumbers() {
        Due.promise(16);
        int[] mostA = {99, 4, 99, 5, 9, 47, 47};
        int[] mostB = {99, 9, 9, 5, 3, 8, 8};
        for (int kind = 0; kind < 7; kind++) {
            int least = kind == 6 ? 1 : 0;
            int[] good = {least, mostB[kind], 100 * mostA[kind] + least, 100 * mostA[kind] + mostB[kind]};
            for (int numbers : good) {
                RiverHead x = Edge.rich();
                Edge.due(x, "row(0, " + kind + ", " + numbers + ", 0)", Edge.RICH_ROWS);
                Edge.due(x, "of(" + Edge.RICH_ROWS + ", 0)", kind);
                Edge.due(x, "of(" + Edge.RICH_ROWS + ", 1)", numbers / 100);
                Edge.due(x, "of(" + Edge.RICH_ROWS + ", 2)", numbers % 100);
            }
            Edge.beyondEnds("row(0, " + kind + ", #, 0)", 0, 100 * mostA[kind] + mostB[kind]);
            Edge.refused(Due.BEYOND, "row(0, " + kind + ", " + (100 * (mostA[kind] + 1) + 1) + ", 0)");
            Edge.refused(Due.BEYOND, "row(0, " + kind + ", -100, 0)");
            Edge.refused(Due.BEYOND, "row(0, " + kind + ", " + (1 << 30) + ", 0)");
            if (mostB[kind] < 99) {
                Edge.refused(Due.BEYOND, "row(0, " + kind + ", " + (mostB[kind] + 1) + ", 0)");
                Edge.refused(Due.BEYOND, "row(0, " + kind + ", 99, 0)");
            }
        }
        Edge.allRefused(Due.BEYOND, "row(0, 6, 0, 0)", "row(0, 6, 100, 0)", "row(0, 6, 4700, 0)");
    }

    // Promise 16: "FULL."
    // Terms 2: "ROWS 0, 1, .. (at most 40)"
    private static void rowFull() {
        Due.promise(16);
        Edge.taken(39, "row(4, 0, 0, 0)", Edge.times(30, "row(2, 0, 0, 0)"));
        Edge.refused(Due.FULL, "row(4, 0, 0, 0)", Edge.times(31, "row(2, 0, 0, 0)"));
        // struck rows are rows, too
        Edge.refused(Due.FULL, "row(4, 0, 0, 0)", Edge.both(Edge.times(31, "row(2, 0, 0, 0)"), "strike(39, true)"));
    }

    // Promise 16: "KNOWN from late DAYS (0 to 720) on"
    private static void rowKnown() {
        Due.promise(16);
        RiverHead x = Edge.after("tick(7)", "row(0, 0, 0, 0)", "row(0, 0, 0, 720)");
        Edge.due(x, "of(0, 4)", 7);
        Edge.due(x, "of(0, 5)", 7);
        Edge.due(x, "of(1, 4)", 7);
        Edge.due(x, "of(1, 5)", 727);
        // behind the last day a row may come, known never
        RiverHead late = Edge.after(Edge.days(3599));
        Edge.due(late, "row(0, 3, 0, 720)", 0);
        Edge.due(late, "of(0, 4)", 3599);
        Edge.due(late, "of(0, 5)", 4319);
        Edge.due(late, "known(3599)", 0);
        Edge.due(late, "where(0, 3599)", Due.ALL);
        Edge.due(late, "row(0, 0, 0, 0)", 1);
        Edge.due(late, "known(3599)", 1);
    }

    // Promise 17: "BEYOND: no such ROW, kind."
    private static void asBeyond() {
        Due.promise(17);
        Edge.beyondEnds("as(#, 0)", 0, Edge.RICH_ROWS - 1);
        Edge.beyondEnds("as(0, #)", 0, 6);
        // ahead of KIND
        Edge.refused(Due.BEYOND, "as(1, 7)");
        Edge.refused(Due.BEYOND, "as(" + Edge.RICH_ROWS + ", 6)");
        Edge.due(new RiverHead(), "as(0, 0)", Due.BEYOND);
    }

    // Promise 17: "KIND: it isn't of that kind, nor of one under it."
    private static void asKind() {
        Due.promise(17);
        // in a rich object row 4 is drawn, row 5 copied, row 6 of kind 0
        Edge.refused(Due.KIND, "as(4, 6)");
        Edge.taken(4, "as(4, 5)");
        Edge.taken(5, "as(5, 5)");
        Edge.taken(5, "as(5, 6)");
        Edge.taken(5, "as(5, 0)");
        Edge.taken(6, "as(6, 0)");
        for (int kind = 1; kind < 7; kind++) {
            Edge.refused(Due.KIND, "as(6, " + kind + ")");
        }
        for (int kind = 1; kind < 5; kind++) {
            Edge.refused(Due.KIND, "as(5, " + kind + ")");
        }
    }

    // Promise 18: "BEYOND: no such ROW, another what."
    private static void ofBeyond() {
        Due.promise(18);
        Edge.beyondEnds("of(#, 0)", 0, Edge.RICH_ROWS - 1);
        Edge.beyondEnds("of(0, #)", 0, 9);
        // ahead of KIND
        Edge.refused(Due.BEYOND, "of(" + Edge.RICH_ROWS + ", 9)");
        Edge.refused(Due.BEYOND, "of(0, 10)");
        Edge.due(new RiverHead(), "of(0, 0)", Due.BEYOND);
    }

    // Promise 18: "KIND: it isn't of a kind that has it."
    private static void ofKind() {
        Due.promise(18);
        // rows of a rich object: star, march, boil, told, drawn, copied, row
        for (int row = 0; row < 7; row++) {
            for (int what = 7; what < 10; what++) {
                boolean has = what == 7 ? row == 4 || row == 5 : row == 2;
                if (!has) {
                    Edge.refused(Due.KIND, "of(" + row + ", " + what + ")");
                }
            }
        }
        Edge.taken(3, "of(4, 7)");
        Edge.taken(4, "of(5, 7)");
        Edge.taken(890, "of(2, 8)");
        Edge.taken(1110, "of(2, 9)");
    }

    // Promise 18: "8 the least HEIGHT that it FITS (BOIL; below 0, too), 9 the greatest."
    private static void ofHeights() {
        Due.promise(18);
        RiverHead x = Edge.after("row(0, 2, 9909, 0)", "row(0, 2, 9900, 0)", "row(0, 2, 9, 0)", "row(0, 2, 0, 0)");
        int[] least = {-110, -20, 3850, 3940};
        int[] greatest = {110, 20, 4070, 3980};
        for (int row = 0; row < 4; row++) {
            Edge.due(x, "of(" + row + ", 8)", least[row]);
            Edge.due(x, "of(" + row + ", 9)", greatest[row]);
        }
        Edge.due(x, "status(-1)", 0);
    }

    // Promise 19: "BEYOND."
    // Promise 19: "A ROW is STRUCK, or not: 1 if that is new, else 0."
    private static void strike() {
        Due.promise(19);
        Edge.beyondEnds("strike(#, true)", 0, Edge.RICH_ROWS - 1);
        Edge.beyondEnds("strike(#, false)", 0, Edge.RICH_ROWS - 1);
        Edge.due(new RiverHead(), "strike(0, false)", Due.BEYOND);
        RiverHead x = Edge.after(Edge.times(40, "row(0, 0, 0, 0)"));
        for (int row : new int[] {0, 31, 32, 39}) {
            Edge.due(x, "strike(" + row + ", false)", 0);
            Edge.due(x, "strike(" + row + ", true)", 1);
            Edge.due(x, "strike(" + row + ", true)", 0);
            Edge.due(x, "of(" + row + ", 6)", 1);
        }
        Edge.due(x, "look(2)", 4);
        Edge.due(x, "strike(40, true)", Due.BEYOND);
        Edge.due(x, "strike(39, false)", 1);
        Edge.due(x, "look(2)", 3);
    }

    // Promise 20: "BEYOND."
    // Promise 20: "What a WORD means in a TONGUE becomes v (0 to 3): what it meant."
    private static void mean() {
        Due.promise(20);
        Edge.beyondEnds("mean(#, 0, 1)", 0, 3);
        Edge.beyondEnds("mean(0, #, 1)", 0, 9);
        Edge.beyondEnds("mean(0, 0, #)", 0, 3);
        // the end of one tongue is not the beginning of the next
        RiverHead x = Edge.after("mean(0, 9, 3)", "mean(1, 0, 1)");
        Edge.due(x, "mean(0, 9, 0)", 3);
        Edge.due(x, "mean(1, 0, 0)", 1);
        Edge.due(x, "mean(3, 9, 3)", 0);
        Edge.due(x, "mean(3, 9, 0)", 3);
    }

    // Promise 21: "BEYOND."
    private static void fitsBeyond() {
        Due.promise(21);
        Edge.beyondEnds("fits(#)", 0, Edge.RICH_ROWS - 1);
        Edge.due(new RiverHead(), "fits(0)", Due.BEYOND);
    }

    // Terms 2: "a BOIL if HEIGHT is not above 40 times what HEAT is less than 99, and 20 and 10 times AIR more, and not below that with as much less"
    private static void fitsBoil() {
        Due.promise(21);
        RiverHead x = Edge.after("high(1, 20)", "high(2, 21)", "high(3, 110)", "high(4, 111)", "high(5, 3939)",
            "high(6, 3940)", "high(7, 3980)", "high(8, 3981)", "high(9, 4000)", "high(10, 889)", "high(11, 890)",
            "high(12, 1110)", "high(13, 1111)", "row(0, 2, 9900, 0)", "row(0, 2, 9909, 0)", "row(0, 2, 0, 0)",
            "row(0, 2, 2, 0)", "row(0, 2, 7409, 0)");
        long flat = Due.ALL & ~Due.cells(1, 2, 3, 4, 5, 6, 7, 8, 9, 10, 11, 12, 13);
        Edge.due(x, "fits(0)", flat | Due.cells(1));
        Edge.due(x, "fits(1)", flat | Due.cells(1, 2, 3));
        Edge.due(x, "fits(2)", Due.cells(6, 7));
        Edge.due(x, "fits(3)", Due.cells(5, 6, 7, 8, 9));
        Edge.due(x, "fits(4)", Due.cells(11, 12));
    }

    // Terms 2: "a STAR if y and a are not more apart than b"
    private static void fitsStar() {
        Due.promise(21);
        int[][] stars = {{0, 0, 0, 0}, {5, 0, 5, 5}, {0, 5, 0, 5}, {5, 5, 0, 5}, {0, 4, 0, 4}, {5, 4, 1, 5}, {2, 1, 1, 3}, {3, 0, 3, 3}};
        for (int[] star : stars) {
            RiverHead x = Edge.after("row(0, 3, " + (100 * star[0] + star[1]) + ", 0)");
            long due = 0;
            for (int y = star[2]; y <= star[3]; y++) {
                due |= FIRST_LINE << 8 * y;
            }
            Edge.due(x, "fits(0)", due);
        }
    }

    // Terms 2: "or the WATCH was not right any more on its DAY"
    private static void fitsStarByWatch() {
        Due.promise(21);
        RiverHead x = Edge.after("tick(9)", "row(0, 3, 0, 5)", "stop(0, 10)");
        Edge.due(x, "fits(0)", FIRST_LINE);
        Edge.on(x, "stop(1, 0)");
        Edge.due(x, "fits(0)", FIRST_LINE);
        Edge.on(x, "stop(0, 9)");
        Edge.due(x, "fits(0)", Due.ALL);
        // on the first day and on the last
        RiverHead first = Edge.after("row(0, 3, 0, 0)", "stop(0, 1)");
        Edge.due(first, "fits(0)", FIRST_LINE);
        Edge.on(first, "stop(0, 0)");
        Edge.due(first, "fits(0)", Due.ALL);
        RiverHead last = Edge.after(Edge.both(Edge.days(3599), "row(0, 3, 0, 0)"));
        Edge.due(last, "fits(0)", FIRST_LINE);
        Edge.on(last, "stop(0, 3599)");
        Edge.due(last, "fits(0)", Due.ALL);
    }

    // Terms 2: "0 nothing (any CELL FITS), 1 a river (a LINK leads from the CELL in some MONTH), 2 a lake (WATER 50 or more), 3 a mountain (HEIGHT 2000 or more)"
    private static void fitsTold() {
        Due.promise(21);
        RiverHead x = Edge.after("row(0, 4, 903, 0)", "water(0, 50)", "water(1, 49)", "water(47, 99)", "high(0, 2000)",
            "high(2, 1999)", "high(47, 4000)", "link(0, 8, 2048)", "link(47, 46, 1)");
        Edge.due(x, "fits(0)", Due.ALL);
        x.mean(3, 9, 1);
        Edge.due(x, "fits(0)", Due.cells(0, 47));
        x.mean(3, 9, 2);
        Edge.due(x, "fits(0)", Due.cells(0, 47));
        x.mean(3, 9, 3);
        Edge.due(x, "fits(0)", Due.cells(0, 47));
        Edge.on(x, "water(1, 50)", "high(2, 2000)");
        Edge.due(x, "fits(0)", Due.cells(0, 2, 47));
        x.mean(3, 9, 2);
        Edge.due(x, "fits(0)", Due.cells(0, 1, 47));
        x.mean(3, 9, 0);
        Edge.due(x, "fits(0)", Due.ALL);
        // nothing of the kind anywhere
        for (int means = 1; means < 4; means++) {
            Edge.due(Edge.after("row(0, 4, 0, 0)", "mean(0, 0, " + means + ")"), "fits(0)", 0);
        }
    }

    // Terms 2: "others any CELL."
    private static void fitsOthers() {
        Due.promise(21);
        RiverHead x = Edge.after("row(0, 0, 9999, 0)", "row(0, 1, 9, 0)", "row(0, 5, 0, 0)", "row(0, 6, 1, 0)");
        for (int row = 0; row < 4; row++) {
            Edge.due(x, "fits(" + row + ")", Due.ALL);
        }
    }

    // Promise 22: "BEYOND: no such ROW, DAY."
    private static void whereBeyond() {
        Due.promise(22);
        Edge.beyondEnds("where(#, 0)", 0, Edge.RICH_ROWS - 1);
        Edge.beyondEnds("where(0, #)", 0, 3599);
        Edge.taken(Due.cells(8), "where(0, 3599)");
        Edge.taken(Due.cells(8), "where(0, 0)");
        Edge.due(new RiverHead(), "where(0, 0)", Due.BEYOND);
    }

    // Terms 2: "of ROWS of the book that are KNOWN on that DAY and not STRUCK (the one asked for among them or not)"
    private static void whereKnown() {
        Due.promise(22);
        RiverHead x = Edge.after("row(0, 0, 0, 0)", "row(0, 3, 0, 5)", "row(0, 1, 201, 720)");
        Edge.due(x, "where(1, 4)", Due.ALL);
        Edge.due(x, "where(1, 5)", FIRST_LINE);
        Edge.due(x, "where(0, 4)", Due.ALL);
        Edge.due(x, "where(0, 5)", FIRST_LINE);
        Edge.due(x, "where(2, 719)", FIRST_LINE);
        Edge.due(x, "where(2, 720)", FIRST_LINE << 8);
    }

    // Terms 2: "STRUCK or not (not at first)"
    private static void whereStruck() {
        Due.promise(22);
        RiverHead x = Edge.after("row(0, 3, 0, 0)", "row(0, 3, 500, 0)");
        Edge.due(x, "where(0, 0)", 0);
        x.strike(1, true);
        Edge.due(x, "where(1, 0)", FIRST_LINE);
        x.strike(0, true);
        Edge.due(x, "where(0, 0)", Due.ALL);
        Edge.due(x, "where(1, 0)", Due.ALL);
        x.strike(1, false);
        Edge.due(x, "where(0, 0)", FIRST_LINE << 40);
    }

    // Terms 2: "a PARTY is in any CELL ahead of the first"
    private static void whereAhead() {
        Due.promise(22);
        RiverHead x = Edge.after("row(0, 1, 0, 0)", "row(1, 3, 0, 0)");
        Edge.due(x, "where(0, 0)", Due.ALL);
        Edge.due(Edge.after("row(0, 1, 1, 0)"), "where(0, 0)", Due.ALL >>> 8);
        Edge.due(Edge.after("row(0, 1, 201, 0)"), "where(0, 0)", Due.ALL & ~FIRST_LINE);
    }

    // Terms 2: "(b steps by way a, all of them within the land"
    private static void marchToTheEdge() {
        Due.promise(22);
        // as many steps as the land has room for, and one more
        int[][] marches = {{0, 5}, {1, 7}, {2, 5}, {3, 7}};
        long[] ends = {FIRST_LINE, FIRST_COLUMN << 7, FIRST_LINE << 40, FIRST_COLUMN};
        for (int i = 0; i < 4; i++) {
            int way = marches[i][0];
            int steps = marches[i][1];
            Edge.due(Edge.after("row(0, 1, " + (100 * way) + ", 0)"), "where(0, 0)", Due.ALL);
            Edge.due(Edge.after("row(0, 1, " + (100 * way + steps) + ", 0)"), "where(0, 0)", ends[i]);
            Edge.due(Edge.after("row(0, 1, " + (100 * way + steps + 1) + ", 0)"), "where(0, 0)", 0);
            Edge.due(Edge.after("row(0, 1, " + (100 * way + 9) + ", 0)"), "where(0, 0)", 0);
        }
        // steps that lead out and back again are not within the land
        RiverHead x = Edge.after("row(0, 3, 0, 0)", "row(0, 1, 1, 0)", "row(0, 1, 201, 0)");
        Edge.due(x, "where(2, 0)", 0);
    }

    // Terms 2: "any: each of b steps to some NEIGHBOUR or none)"
    private static void marchAnyWay() {
        Due.promise(22);
        // a boil that cell 0 alone fits
        String[] corner = {"high(0, 4000)", "row(0, 2, 2, 0)"};
        Edge.due(Edge.after(Edge.both(corner, "row(0, 1, 400, 0)")), "where(1, 0)", Due.cells(0));
        Edge.due(Edge.after(Edge.both(corner, "row(0, 1, 401, 0)")), "where(1, 0)", Due.cells(0, 1, 8));
        Edge.due(Edge.after(Edge.both(corner, "row(0, 1, 409, 0)")), "where(1, 0)", Due.ALL & ~Due.cells(31, 38, 39, 45, 46, 47));
        String[] end = {"high(47, 4000)", "row(0, 2, 2, 0)"};
        Edge.due(Edge.after(Edge.both(end, "row(0, 1, 401, 0)")), "where(1, 0)", Due.cells(39, 46, 47));
        Edge.due(Edge.after(Edge.both(end, "row(0, 1, 409, 0)")), "where(1, 0)", Due.ALL & ~Due.cells(0, 1, 2, 8, 9, 16));
    }

    // Terms 2: "all of them within the land"
    // Terms 1: "x is the rest by 8, y the CELL by 8 (0 to 5)"
    private static void marchDoesNotWrap() {
        Due.promise(22);
        int[][] cellWay = {{7, 1}, {39, 1}, {8, 3}, {40, 3}, {0, 0}, {7, 0}, {40, 2}, {47, 2}, {47, 1}, {0, 3}};
        for (int[] out : cellWay) {
            RiverHead x = Edge.after("high(" + out[0] + ", 4000)", "row(0, 2, 2, 0)", "row(0, 1, " + (100 * out[1] + 1) + ", 0)");
            Edge.due(x, "fits(0)", Due.cells(out[0]));
            Edge.due(x, "where(1, 0)", 0);
        }
        RiverHead edge = Edge.after("high(7, 4000)", "row(0, 2, 2, 0)", "row(0, 1, 401, 0)");
        Edge.due(edge, "where(1, 0)", Due.cells(6, 7, 15));
    }

    // Terms 2: "CELLS in which it can be at (behind) that ROW so that all ROWS, those behind it, too, are as told."
    private static void whereBehind() {
        Due.promise(22);
        RiverHead x = Edge.after("row(0, 0, 0, 0)", "row(0, 1, 105, 0)", "row(0, 1, 102, 0)");
        Edge.due(x, "where(0, 0)", FIRST_COLUMN);
        Edge.due(x, "where(1, 0)", FIRST_COLUMN << 5);
        Edge.due(x, "where(2, 0)", FIRST_COLUMN << 7);
        x.row(0, 1, 101, 0);
        for (int row = 0; row < 4; row++) {
            Edge.due(x, "where(" + row + ", 0)", 0);
        }
        // a march by each way: where it began lies the other way of where it ended
        int[] start = {35, 26, 19, 28};
        int[] end = {19, 28, 35, 26};
        for (int way = 0; way < 4; way++) {
            RiverHead y = Edge.after("high(" + end[way] + ", 4000)", "row(0, 0, 0, 0)", "row(0, 1, " + (100 * way + 2) + ", 0)",
                "row(0, 2, 2, 0)");
            Edge.due(y, "where(0, 0)", 1L << start[way]);
            Edge.due(y, "where(1, 0)", 1L << end[way]);
            Edge.due(y, "where(2, 0)", 1L << end[way]);
        }
        // any way of one step: around where it ended, as far as there are such
        RiverHead z = Edge.after("high(47, 4000)", "row(0, 0, 0, 0)", "row(0, 1, 401, 0)", "row(0, 2, 2, 0)");
        Edge.due(z, "where(0, 0)", Due.cells(39, 46, 47));
        Edge.due(z, "where(1, 0)", Due.cells(47));
    }

    // Terms 2: "ROWS 0, 1, .. (at most 40), each in the book of a PARTY"
    private static void fullBook() {
        Due.promise(22);
        RiverHead x = Edge.after(Edge.times(39, "row(0, 1, 400, 0)"));
        Edge.due(x, "row(0, 3, 500, 0)", 39);
        Edge.due(x, "where(0, 0)", FIRST_LINE << 40);
        Edge.due(x, "where(39, 0)", FIRST_LINE << 40);
        Edge.due(x, "count(39, 0)", 8);
    }

    // Promise 23: "BEYOND likewise."
    // Promise 23: "How many CELLS that are."
    private static void count() {
        Due.promise(23);
        Edge.beyondEnds("count(#, 0)", 0, Edge.RICH_ROWS - 1);
        Edge.beyondEnds("count(0, #)", 0, 3599);
        Edge.taken(1, "count(0, 0)");
        Edge.taken(1, "count(0, 3599)");
        Edge.due(Edge.after("row(0, 0, 0, 0)"), "count(0, 0)", 48);
        Edge.due(Edge.after("row(0, 1, 9, 0)"), "count(0, 0)", 0);
        Edge.due(new RiverHead(), "count(0, 0)", Due.BEYOND);
    }

    // Promise 24: "BEYOND."
    // Promise 24: "KIND: they are not of one PARTY."
    private static void sameFindings() {
        Due.promise(24);
        Edge.beyondEnds("same(#, 0)", 0, Edge.RICH_ROWS - 1);
        Edge.beyondEnds("same(0, #)", 0, Edge.RICH_ROWS - 1);
        Edge.refused(Due.KIND, "same(0, 4)");
        Edge.refused(Due.KIND, "same(8, 0)");
        Edge.taken(1, "same(8, 8)");
        Edge.taken(1, "same(1, 3)");
        Edge.due(new RiverHead(), "same(0, 0)", Due.BEYOND);
    }

    // Promise 24: "1 if it can have been in the same CELL at both (WHERE of both, as of the open DAY, has one), else 0."
    private static void sameOfNone() {
        Due.promise(24);
        RiverHead x = Edge.after("row(0, 1, 9, 0)");
        Edge.due(x, "same(0, 0)", 0);
        x.strike(0, true);
        Edge.due(x, "same(0, 0)", 1);
        // lines that touch have no cell together; as of the open day
        RiverHead y = Edge.after("row(0, 3, 0, 0)", "row(0, 1, 201, 2)");
        Edge.due(y, "same(0, 1)", 1);
        y.tick(1);
        Edge.due(y, "same(0, 1)", 1);
        y.tick(1);
        Edge.due(y, "same(0, 1)", 0);
    }
}
