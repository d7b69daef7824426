/** Promises 16 to 24: rows. */
public final class RowsTest {
    public static void main(String[] args) {
        row();
        rowsAreForty();
        asAndOf();
        strike();
        mean();
        fits();
        where();
        whereByWays();
        same();
        Due.end();
    }

    private static void row() {
        Due.promise(16);
        RiverHead x = new RiverHead();
        int[] least = {0, 0, 0, 0, 0, 0, 1};
        int[] most = {9999, 409, 9909, 505, 903, 4708, 4708};
        int[][] wrong = {
            {10000, -1}, {500, 10, 4 * 100 + 10}, {10, 10000}, {600, 6, 506}, {1000, 4, 904}, {4800, 9, 4709},
            {0, 100, 4700, 9, 4801}};
        int number = 0;
        for (int kind = 0; kind < 7; kind++) {
            Due.due("least of kind " + kind, x.row(0, kind, least[kind], 0), number++);
            Due.due("most of kind " + kind, x.row(4, kind, most[kind], 720), number++);
            for (int numbers : wrong[kind]) {
                Due.due("kind " + kind + " with " + numbers, x.row(0, kind, numbers, 0), Due.BEYOND);
            }
        }
        Due.due("numbers below 0", x.row(0, 1, -1, 0), Due.BEYOND);
        Due.due("least int", x.row(0, 0, Integer.MIN_VALUE, 0), Due.BEYOND);
        Due.due("party 5", x.row(5, 0, 0, 0), Due.BEYOND);
        Due.due("party -1", x.row(-1, 0, 0, 0), Due.BEYOND);
        Due.due("kind 7", x.row(0, 7, 0, 0), Due.BEYOND);
        Due.due("kind -1", x.row(0, -1, 0, 0), Due.BEYOND);
        Due.due("late 721", x.row(0, 0, 0, 721), Due.BEYOND);
        Due.due("late -1", x.row(0, 0, 0, -1), Due.BEYOND);
        Due.due("rows then", x.look(1), 14);
    }

    private static void rowsAreForty() {
        Due.promise(16);
        RiverHead x = new RiverHead();
        for (int i = 0; i < 40; i++) {
            Due.due("a row of forty", x.row(i % 5, 0, 0, 0), i);
        }
        Due.due("one row more", x.row(0, 0, 0, 0), Due.FULL);
        Due.due("beyond ahead of full", x.row(0, 3, 600, 0), Due.BEYOND);
        Due.due("rows then", x.look(1), 40);
    }

    private static void asAndOf() {
        RiverHead x = new RiverHead();
        x.row(0, 0, 7, 0);
        x.row(0, 1, 0, 0);
        x.row(0, 2, 9809, 0);
        x.row(0, 3, 0, 0);
        x.row(0, 4, 0, 0);
        x.row(0, 5, 4703, 0);
        x.tick(40);
        x.row(3, 6, 1208, 720);
        Due.promise(17);
        for (int row = 0; row < 7; row++) {
            for (int kind = 0; kind < 7; kind++) {
                boolean is = kind == 0 || kind == row || (row == 6 && kind == 5);
                Due.due("as(" + row + ", " + kind + ")", x.as(row, kind), is ? row : Due.KIND);
            }
        }
        Due.due("as(7, 0)", x.as(7, 0), Due.BEYOND);
        Due.due("as(-1, 0)", x.as(-1, 0), Due.BEYOND);
        Due.due("as(0, 7)", x.as(0, 7), Due.BEYOND);
        Due.due("as(0, -1)", x.as(0, -1), Due.BEYOND);
        Due.promise(18);
        int[] copied = {6, 12, 8, 3, 40, 760, 0, 8, Due.KIND, Due.KIND};
        int[] boil = {2, 98, 9, 0, 0, 0, 0, Due.KIND, -70, 150};
        int[] plain = {0, 0, 7, 0, 0, 0, 0, Due.KIND, Due.KIND, Due.KIND};
        for (int what = 0; what < 10; what++) {
            Due.due("of(6, " + what + ")", x.of(6, what), copied[what]);
            Due.due("of(2, " + what + ")", x.of(2, what), boil[what]);
            Due.due("of(0, " + what + ")", x.of(0, what), plain[what]);
        }
        Due.due("of(5, 7)", x.of(5, 7), 3);
        Due.due("of(1, 7)", x.of(1, 7), Due.KIND);
        Due.due("of(7, 7)", x.of(7, 7), Due.BEYOND);
        Due.due("of(-1, 0)", x.of(-1, 0), Due.BEYOND);
        Due.due("of(0, 10)", x.of(0, 10), Due.BEYOND);
        Due.due("of(0, -1)", x.of(0, -1), Due.BEYOND);
        x.strike(6, true);
        Due.due("of a struck one", x.of(6, 6), 1);
    }

    private static void strike() {
        Due.promise(19);
        RiverHead x = new RiverHead();
        Due.due("no row", x.strike(0, true), Due.BEYOND);
        x.row(0, 0, 0, 0);
        Due.due("not struck", x.strike(0, false), 0);
        Due.due("struck", x.strike(0, true), 1);
        Due.due("struck still", x.strike(0, true), 0);
        Due.due("struck ones", x.look(2), 1);
        Due.due("not any more", x.strike(0, false), 1);
        Due.due("struck ones", x.look(2), 0);
        Due.due("row -1", x.strike(-1, true), Due.BEYOND);
        Due.due("row 1", x.strike(1, true), Due.BEYOND);
    }

    private static void mean() {
        Due.promise(20);
        RiverHead x = new RiverHead();
        Due.due("mean(3, 9, 3)", x.mean(3, 9, 3), 0);
        Due.due("mean(3, 9, 1)", x.mean(3, 9, 1), 3);
        Due.due("another tongue", x.mean(2, 9, 0), 0);
        Due.due("another word", x.mean(3, 8, 0), 0);
        Due.due("mean(4, 0, 0)", x.mean(4, 0, 0), Due.BEYOND);
        Due.due("mean(-1, 0, 0)", x.mean(-1, 0, 0), Due.BEYOND);
        Due.due("mean(0, 10, 0)", x.mean(0, 10, 0), Due.BEYOND);
        Due.due("mean(0, -1, 0)", x.mean(0, -1, 0), Due.BEYOND);
        Due.due("mean(0, 0, 4)", x.mean(0, 0, 4), Due.BEYOND);
        Due.due("mean(0, 0, -1)", x.mean(0, 0, -1), Due.BEYOND);
    }

    private static void fits() {
        Due.promise(21);
        RiverHead x = new RiverHead();
        for (int cell = 0; cell < 48; cell++) {
            x.high(cell, 3000);
        }
        x.high(0, 1960);
        x.high(1, 1959);
        x.high(2, 2040);
        x.high(3, 2041);
        x.row(0, 2, 4902, 0);
        Due.due("a boil with both its ends", x.fits(0), Due.cells(0, 2));
        x.tick(10);
        x.row(0, 3, 401, 0);
        Due.due("a star", x.fits(1), Due.ALL & ~((1L << 24) - 1));
        x.stop(0, 11);
        Due.due("the watch was right on its day", x.fits(1), Due.ALL & ~((1L << 24) - 1));
        x.stop(0, 10);
        Due.due("the watch was not", x.fits(1), Due.ALL);
        x.row(1, 4, 503, 0);
        Due.due("a word without a meaning", x.fits(2), Due.ALL);
        x.mean(3, 5, 1);
        Due.due("no river", x.fits(2), 0);
        x.link(3, 2, 8);
        x.high(20, 3001);
        x.link(20, 12, 8);
        Due.due("rivers", x.fits(2), Due.cells(3, 20));
        x.mean(3, 5, 2);
        x.water(0, 50);
        Due.due("a lake in cell 0", x.fits(2), Due.cells(0));
        x.water(0, 0);
        x.water(7, 50);
        x.water(8, 49);
        Due.due("lakes", x.fits(2), Due.cells(7));
        x.mean(3, 5, 3);
        x.high(9, 2000);
        x.high(10, 1999);
        Due.due("mountains", x.fits(2), Due.ALL & ~Due.cells(0, 1, 10));
        x.row(1, 0, 0, 0);
        x.row(1, 1, 9, 0);
        x.row(1, 5, 0, 0);
        x.row(1, 6, 1, 0);
        for (int row = 3; row < 7; row++) {
            Due.due("any cell", x.fits(row), Due.ALL);
        }
        x.strike(0, true);
        Due.due("a struck one", x.fits(0), Due.cells(0, 2, 9, 10));
        Due.due("fits(7)", x.fits(7), Due.BEYOND);
        Due.due("fits(-1)", x.fits(-1), Due.BEYOND);
    }

    private static void where() {
        Due.promise(22);
        RiverHead x = new RiverHead();
        x.high(20, 4000);
        x.high(45, 1000);
        x.row(0, 0, 0, 0);
        x.row(0, 2, 0, 0);            // 3940 to 3980: none
        Due.due("none", x.where(0, 0), 0);
        x.strike(1, true);
        Due.due("any", x.where(0, 0), Due.ALL);
        Due.due("any at a struck one", x.where(1, 0), Due.ALL);
        x.row(0, 2, 4, 0);            // 3900 to 4020 wide: row 2
        Due.due("one", x.where(0, 0), Due.cells(20));
        Due.due("one at the struck row between", x.where(1, 0), Due.cells(20));
        x.tick(5);
        x.row(0, 1, 401, 5);          // any way, one step, known from day 10: row 3
        x.row(0, 3, 300, 0);          // y is 3: row 4
        Due.due("not known: it must not have moved", x.where(4, 9), 0);
        Due.due("known: one step down", x.where(4, 10), Due.cells(28));
        Due.due("the step's end", x.where(3, 10), Due.cells(28));
        Due.due("the step's start", x.where(2, 10), Due.cells(20));
        Due.due("a book of another", x.row(1, 0, 0, 0), 5);
        Due.due("has nothing of it", x.where(5, 10), Due.ALL);
        x.row(0, 2, 7400, 30);        // 1000: row 6, known from day 35
        Due.due("later rows bind earlier ones", x.where(0, 35), 0);
        Due.due("but are not known before", x.where(0, 34), Due.cells(20));
        Due.due("where(7, 0)", x.where(7, 0), Due.BEYOND);
        Due.due("where(-1, 0)", x.where(-1, 0), Due.BEYOND);
        Due.due("where(0, 3600)", x.where(0, 3600), Due.BEYOND);
        Due.due("where(0, -1)", x.where(0, -1), Due.BEYOND);
        Due.promise(23);
        Due.due("count 1", x.count(4, 10), 1);
        Due.due("count 0", x.count(4, 9), 0);
        Due.due("count 48", x.count(5, 3599), 48);
        Due.due("count(7, 0)", x.count(7, 0), Due.BEYOND);
        Due.due("count(0, 3600)", x.count(0, 3600), Due.BEYOND);
        Due.due("count(0, -1)", x.count(0, -1), Due.BEYOND);
    }

    private static void whereByWays() {
        Due.promise(22);
        long firstRow = 0xFFL;
        long firstColumn = 0x010101010101L;
        long[] ends = {Due.ALL >>> 16, Due.ALL & ~(firstColumn | firstColumn << 1), Due.ALL & ~(firstRow | firstRow << 8),
            Due.ALL & ~(firstColumn << 6 | firstColumn << 7)};
        for (int way = 0; way < 4; way++) {
            RiverHead x = new RiverHead();
            x.row(0, 0, 0, 0);
            x.row(0, 1, 100 * way + 2, 0);
            Due.due("behind two steps by way " + way, x.where(1, 0), ends[way]);
            Due.due("ahead of two steps by way " + way, x.where(0, 0), ends[(way + 2) % 4]);
        }
        RiverHead x = new RiverHead();
        x.row(0, 1, 9, 0);
        Due.due("nine steps north lead out of the land", x.where(0, 0), 0);
        x.strike(0, true);
        x.row(0, 1, 107, 0);
        Due.due("seven steps east", x.where(1, 0), firstColumn << 7);
        x.row(0, 1, 101, 0);
        Due.due("no eighth", x.where(1, 0), 0);
        x.strike(2, true);
        x.row(0, 1, 300, 0);
        Due.due("no steps", x.where(3, 0), firstColumn << 7);
        x.high(0, 1000);
        x.row(1, 2, 7400, 0);
        x.row(1, 1, 402, 0);
        Due.due("two steps or fewer any way", x.where(5, 0), Due.cells(0, 1, 2, 8, 9, 16));
        x.row(1, 2, 7400, 0);
        Due.due("back where it began", x.where(5, 0), Due.cells(0));
    }

    private static void same() {
        Due.promise(24);
        RiverHead x = new RiverHead();
        x.row(0, 3, 100, 0);
        x.row(0, 1, 201, 0);
        x.row(0, 1, 401, 3);
        x.row(1, 0, 0, 0);
        Due.due("a step apart", x.same(0, 1), 0);
        Due.due("not known yet", x.same(0, 2), 0);
        x.tick(3);
        Due.due("and back perhaps", x.same(0, 2), 1);
        Due.due("with itself", x.same(1, 1), 1);
        Due.due("of two parties", x.same(0, 3), Due.KIND);
        Due.due("same(0, 4)", x.same(0, 4), Due.BEYOND);
        Due.due("same(-1, 0)", x.same(-1, 0), Due.BEYOND);
        x.row(0, 3, 500, 0);
        Due.due("nowhere at all", x.same(1, 1), 0);
    }
}
