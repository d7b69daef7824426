/** The boundary cases of promises 32 to 36 and of the maps of section 4, sentence by sentence. */
public final class MapsEdgesTest {
    public static void main(String[] args) {
        mapBeyond();
        mapEnds();
        mapDrawn();
        slipsBeyond();
        slipsFromNone();
        slipsOfOneAlone();
        copiedBeyond();
        copiedOfLikeOnes();
        guesses();
        shoreFindings();
        shoreKnown();
        shoreDrawn();
        shoreFirst();
        Due.end();
    }

    // Promise 32: "BEYOND."
    // Terms 4: "MAPS 0 to 8 (by years)"
    private static void mapBeyond() {
        Due.promise(32);
        Edge.beyondEnds("map(#)", 0, 8);
        Edge.taken(0, "map(0)");
        Edge.taken(0, "map(8)");
        Edge.taken(Due.cells(20), "map(3)");
    }

    // Promise 32: "CELLS that are on a MAP, as bits."
    private static void mapEnds() {
        Due.promise(32);
        RiverHead x = Edge.after("row(0, 5, 0, 0)", "row(4, 5, 4700, 0)", "row(0, 6, 8, 0)", "row(0, 5, 4708, 0)");
        Edge.due(x, "map(0)", Due.cells(0, 47));
        Edge.due(x, "map(8)", Due.cells(0, 47));
        for (int map = 1; map < 8; map++) {
            Edge.due(x, "map(" + map + ")", 0);
        }
        RiverHead full = new RiverHead();
        for (int cell = 0; cell < 40; cell++) {
            full.row(cell % 5, 5, 100 * cell, 0);
        }
        Edge.due(full, "map(0)", (1L << 40) - 1);
    }

    // Terms 4: "(by ROWS that are DRAWN, not STRUCK, KNOWN or not)"
    private static void mapDrawn() {
        Due.promise(32);
        RiverHead x = Edge.after("row(0, 5, 101, 720)", "row(0, 6, 201, 0)", "row(0, 0, 301, 0)", "row(0, 2, 401, 0)",
            "row(0, 3, 501, 0)", "row(0, 1, 301, 0)", "row(0, 4, 401, 0)");
        Edge.due(x, "map(1)", Due.cells(1, 2));
        x.strike(0, true);
        Edge.due(x, "map(1)", Due.cells(2));
        x.strike(1, true);
        Edge.due(x, "map(1)", 0);
        x.strike(0, false);
        Edge.due(x, "map(1)", Due.cells(1));
    }

    // Promise 33: "BEYOND: no such MAP, from not below it."
    private static void slipsBeyond() {
        Due.promise(33);
        Edge.beyondEnds("slips(#, -1)", 0, 8);
        Edge.beyondEnds("slips(3, #)", -1, 2);
        Edge.beyondEnds("slips(8, #)", -1, 7);
        Edge.allRefused(Due.BEYOND, "slips(0, 0)", "slips(8, 8)", "slips(-1, -1)", "slips(-1, -2)", "slips(9, 8)", "slips(0, 8)");
        Edge.taken(2, "slips(0, -1)");
        Edge.taken(0, "slips(8, 7)");
        Edge.taken(0, "slips(1, 0)");
        Edge.taken(1, "slips(3, 2)");
    }

    // Promise 33: "SLIPS of a MAP from an earlier one (-1: none)."
    // Terms 4: "from none: CELLS that are on it, and 2 more."
    private static void slipsFromNone() {
        Due.promise(33);
        RiverHead x = new RiverHead();
        Edge.due(x, "slips(0, -1)", 2);
        Edge.due(x, "slips(8, -1)", 2);
        for (int cell = 0; cell < 40; cell++) {
            x.row(0, 5, 100 * cell + 8, 0);
        }
        Edge.due(x, "slips(8, -1)", 42);
        Edge.due(x, "slips(8, 7)", 40);
        Edge.due(x, "slips(7, -1)", 2);
    }

    // Terms 4: "CELLS that are on one of both alone"
    private static void slipsOfOneAlone() {
        Due.promise(33);
        RiverHead x = Edge.after("row(0, 5, 0, 0)", "row(0, 5, 4701, 0)");
        Edge.due(x, "slips(1, 0)", 2);
        x.row(0, 5, 1, 0);
        Edge.due(x, "slips(1, 0)", 1);
        x.row(0, 5, 4700, 0);
        Edge.due(x, "slips(1, 0)", 0);
        Edge.due(x, "slips(2, 1)", 2);
    }

    // Promise 34: "BEYOND."
    private static void copiedBeyond() {
        Due.promise(34);
        Edge.beyondEnds("copied(#)", 0, 8);
        Edge.taken(-1, "copied(0)");
        Edge.taken(0, "copied(8)");
    }

    // Promise 34: "The MAP that a MAP is COPIED OF (-1: none)."
    // Terms 4: "(of like ones from none, then of the least MAP)"
    private static void copiedOfLikeOnes() {
        Due.promise(34);
        RiverHead x = new RiverHead();
        Edge.due(x, "copied(0)", -1);
        Edge.due(x, "copied(1)", 0);
        Edge.due(x, "copied(8)", 0);
        // two more on map 0 alone: as many slips as from none
        Edge.on(x, "row(0, 5, 100, 0)", "row(0, 5, 200, 0)");
        Edge.due(x, "copied(1)", -1);
        Edge.due(x, "copied(2)", 1);
        // one more on map 0 alone: one fewer
        x.strike(1, true);
        Edge.due(x, "copied(1)", 0);
        Edge.due(x, "copied(0)", -1);
        // maps 1 and 2 are as near to 3
        RiverHead y = Edge.after("row(0, 5, 100, 0)", "row(0, 5, 200, 0)", "row(0, 5, 300, 0)", "row(0, 5, 4001, 0)",
            "row(0, 5, 4102, 0)");
        Edge.due(y, "copied(3)", 1);
        y.row(0, 5, 4103, 0);
        Edge.due(y, "copied(3)", 2);
    }

    // Promise 35: "SLIPS of all MAPS from those that they are COPIED OF, together (a MAP with nothing on it has none)."
    private static void guesses() {
        Due.promise(35);
        RiverHead x = new RiverHead();
        Edge.due(x, "guesses()", 0);
        x.row(0, 5, 0, 0);
        Edge.due(x, "guesses()", 3);
        x.row(0, 5, 8, 0);
        Edge.due(x, "guesses()", 3);
        x.row(0, 5, 108, 0);
        Edge.due(x, "guesses()", 4);
        Edge.on(x, "strike(0, true)", "strike(1, true)");
        Edge.due(x, "guesses()", 1);
        x.strike(2, true);
        Edge.due(x, "guesses()", 0);
        RiverHead full = new RiverHead();
        for (int cell = 0; cell < 40; cell++) {
            full.row(0, 5, 100 * cell, 0);
        }
        Edge.due(full, "guesses()", 42);
    }

    // Promise 36: "BEYOND."
    // Promise 36: "NONE."
    private static void shoreFindings() {
        Due.promise(36);
        Edge.beyondEnds("shore(#)", 0, 47);
        // on no map, and on one but borne out by a row of kind 0
        Edge.allRefused(Due.NONE, "shore(0)", "shore(22)", "shore(47)");
        Edge.refused(Due.NONE, "shore(20)", "row(2, 0, 0, 0)");
        // the first row bears out as the last does
        Edge.due(Edge.after("row(0, 0, 0, 0)", "row(1, 5, 2000, 0)"), "shore(20)", Due.NONE);
        Edge.due(Edge.after(Edge.both(Edge.times(39, "row(1, 5, 2000, 0)"), "row(0, 0, 0, 0)")), "shore(20)", Due.NONE);
        Edge.due(Edge.after(Edge.times(40, "row(1, 5, 2000, 0)")), "shore(20)", 0);
        Edge.refused(Due.NONE, "shore(20)", "strike(4, true)");
        Edge.taken(3, "shore(20)");
        Edge.taken(4, "shore(21)");
        Edge.due(Edge.after("row(0, 5, 0, 0)"), "shore(0)", 0);
        Edge.due(Edge.after("row(0, 5, 4708, 0)"), "shore(47)", 8);
    }

    // Promise 36: "no ROW that is KNOWN on the open DAY and not STRUCK"
    private static void shoreKnown() {
        Due.promise(36);
        RiverHead x = Edge.after("row(0, 5, 2008, 720)", "row(1, 0, 0, 3)");
        Edge.due(x, "shore(20)", 8);
        x.tick(2);
        Edge.due(x, "shore(20)", 8);
        x.tick(1);
        Edge.due(x, "shore(20)", Due.NONE);
        x.strike(1, true);
        Edge.due(x, "shore(20)", 8);
        x.strike(1, false);
        // as of the open day its book leaves no cell
        x.row(1, 1, 9, 1);
        Edge.due(x, "shore(20)", Due.NONE);
        x.tick(1);
        Edge.due(x, "shore(20)", 8);
    }

    // Promise 36: "of a kind other than DRAWN (nor one under it)"
    private static void shoreDrawn() {
        Due.promise(36);
        RiverHead x = Edge.after("row(0, 5, 2000, 0)", "row(1, 6, 2001, 0)");
        Edge.due(x, "shore(20)", 0);
        int[] numbers = {0, 400, 9909, 205, 0};
        for (int kind = 0; kind < 5; kind++) {
            RiverHead y = Edge.after("row(0, 5, 2000, 0)", "row(2, " + kind + ", " + numbers[kind] + ", 0)");
            Edge.due(y, "shore(20)", Due.NONE);
        }
        // where a drawn row stands, a star of the same book bears out its line alone
        RiverHead z = Edge.after("row(0, 5, 2000, 0)", "row(0, 5, 700, 0)", "row(0, 5, 1500, 0)", "row(0, 3, 100, 0)");
        Edge.due(z, "shore(20)", 0);
        Edge.due(z, "shore(7)", 0);
        Edge.due(z, "shore(15)", Due.NONE);
    }

    // Promise 36: "The first MAP on which a CELL is"
    private static void shoreFirst() {
        Due.promise(36);
        RiverHead x = Edge.after("row(0, 5, 2008, 0)", "row(0, 5, 2001, 0)", "row(0, 5, 2000, 0)");
        Edge.due(x, "shore(20)", 0);
        x.strike(2, true);
        Edge.due(x, "shore(20)", 1);
        x.strike(1, true);
        Edge.due(x, "shore(20)", 8);
        x.strike(0, true);
        Edge.due(x, "shore(20)", Due.NONE);
    }
}
