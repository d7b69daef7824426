/** Promises 32 to 36: maps. */
public final class MapsTest {
    public static void main(String[] args) {
        map();
        slipsAndCopied();
        shore();
        shoreOfManyBooks();
        Due.end();
    }

    private static void map() {
        Due.promise(32);
        RiverHead x = new RiverHead();
        Due.due("an empty map", x.map(8), 0);
        x.row(0, 5, 4708, 0);
        x.row(1, 5, 8, 720);
        x.row(2, 6, 508, 0);
        x.row(2, 5, 508, 0);
        x.row(2, 0, 1108, 0);
        x.row(2, 5, 1107, 0);
        Due.due("drawn, copied, known or not", x.map(8), Due.cells(0, 5, 47));
        Due.due("another map", x.map(7), Due.cells(11));
        x.strike(2, true);
        Due.due("still drawn by another row", x.map(8), Due.cells(0, 5, 47));
        x.strike(3, true);
        Due.due("struck", x.map(8), Due.cells(0, 47));
        Due.due("map(9)", x.map(9), Due.BEYOND);
        Due.due("map(-1)", x.map(-1), Due.BEYOND);
    }

    private static void slipsAndCopied() {
        RiverHead x = new RiverHead();
        Due.promise(35);
        Due.due("no guesses", x.guesses(), 0);
        Due.promise(34);
        Due.due("an empty first map", x.copied(0), -1);
        Due.due("an empty map of an empty one", x.copied(3), 0);
        // 1: 1 2 3; 2: 1 2 4; 4: 1 2; 5: 40
        int[] drawn = {101, 201, 301, 102, 202, 402, 104, 204, 4005};
        for (int numbers : drawn) {
            x.row(0, 5, numbers, 0);
        }
        Due.promise(33);
        Due.due("from none", x.slips(1, -1), 5);
        Due.due("an empty one from none", x.slips(0, -1), 2);
        Due.due("from an empty one", x.slips(1, 0), 3);
        Due.due("of both alone", x.slips(2, 1), 2);
        Due.due("fewer", x.slips(4, 2), 1);
        Due.due("not below it", x.slips(2, 2), Due.BEYOND);
        Due.due("above it", x.slips(2, 3), Due.BEYOND);
        Due.due("the last map", x.slips(8, 7), 0);
        Due.due("map 9", x.slips(9, 0), Due.BEYOND);
        Due.due("map -1", x.slips(-1, -1), Due.BEYOND);
        Due.due("from -2", x.slips(2, -2), Due.BEYOND);
        Due.promise(34);
        Due.due("of an empty one", x.copied(1), 0);
        Due.due("of the one before", x.copied(2), 1);
        Due.due("of the least of like ones", x.copied(4), 1);
        Due.due("an empty one of the least empty one", x.copied(6), 0);
        Due.due("the last map", x.copied(8), 0);
        Due.due("map 9", x.copied(9), Due.BEYOND);
        Due.due("map -1", x.copied(-1), Due.BEYOND);
        Due.promise(35);
        Due.due("guesses", x.guesses(), 3 + 2 + 1 + 1);
        x.row(0, 5, 3000, 0);
        x.row(0, 5, 3100, 0);
        Due.promise(34);
        Due.due("none ahead of like ones", x.copied(1), -1);
        Due.promise(35);
        Due.due("guesses with a first map", x.guesses(), 4 + 5 + 2 + 1 + 1);
    }

    private static void shore() {
        Due.promise(36);
        RiverHead x = new RiverHead();
        x.row(0, 5, 2003, 0);
        x.row(0, 6, 2002, 500);
        x.row(0, 5, 2103, 0);
        Due.due("drawn rows bear nothing out", x.shore(20), 2);
        Due.due("of its only map", x.shore(21), 3);
        Due.due("on no map", x.shore(22), Due.NONE);
        x.strike(1, true);
        Due.due("struck", x.shore(20), 3);
        x.row(0, 3, 200, 10);
        Due.due("not known yet", x.shore(20), 3);
        x.tick(10);
        Due.due("borne out", x.shore(20), Due.NONE);
        x.strike(3, true);
        Due.due("by a struck row no more", x.shore(20), 3);
        x.strike(3, false);
        x.row(0, 3, 100, 0);
        Due.due("nor by rows that can't all be", x.shore(20), 3);
        Due.due("shore(48)", x.shore(48), Due.BEYOND);
        Due.due("shore(-1)", x.shore(-1), Due.BEYOND);
    }

    private static void shoreOfManyBooks() {
        Due.promise(36);
        RiverHead x = new RiverHead();
        x.row(0, 5, 2000, 0);
        x.row(3, 3, 400, 0);
        Due.due("another party was elsewhere", x.shore(20), 0);
        x.row(4, 0, 0, 0);
        Due.due("a third one perhaps there", x.shore(20), Due.NONE);
        x.strike(2, true);
        x.row(3, 1, 2, 0);
        Due.due("there two steps later", x.shore(20), Due.NONE);
        RiverHead y = new RiverHead();
        y.row(2, 0, 0, 0);
        y.row(0, 5, 2000, 0);
        Due.due("borne out by row 0", y.shore(20), Due.NONE);
    }
}
