/** Sentences that no boundary case quotes: sections 4 and 5, promises 36 and 41. */
public final class MapsSentencesTest {
    public static void main(String[] args) {
        mapsAsDrawn();
        slipsFromEarlierOnes();
        copiedOfTheNearest();
        claimsAtRows();
        dayIsClosed();
        shore();
        plan();
        planOfWhatIsStruck();
        Due.end();
    }

    /** Cell 3 on map 0, 3 and 4 on map 1, 5 on map 2, drawn by four parties. */
    private static RiverHead maps() {
        return Edge.after("row(0, 5, 300, 0)", "row(1, 6, 301, 0)", "row(2, 5, 401, 9)", "row(3, 5, 502, 0)");
    }

    // Terms 4: "MAPS 0 to 8 (by years): CELLS that are drawn on each (by ROWS that are DRAWN, not STRUCK, KNOWN or not)."
    private static void mapsAsDrawn() {
        Due.promise(32);
        RiverHead x = maps();
        long[] due = {Due.cells(3), Due.cells(3, 4), Due.cells(5), 0, 0, 0, 0, 0, 0};
        for (int map = 0; map < 9; map++) {
            Edge.due(x, "map(" + map + ")", due[map]);
        }
        // drawn twice, it is there till both are struck
        x.row(4, 5, 300, 0);
        x.strike(0, true);
        Edge.due(x, "map(0)", Due.cells(3));
        x.strike(4, true);
        Edge.due(x, "map(0)", 0);
        Edge.due(x, "map(1)", Due.cells(3, 4));
    }

    // Terms 4: "SLIPS of a MAP from an earlier one: CELLS that are on one of both alone; from none: CELLS that are on it, and 2 more."
    private static void slipsFromEarlierOnes() {
        Due.promise(33);
        RiverHead x = maps();
        int[][] due = {{0, -1, 3}, {1, -1, 4}, {1, 0, 1}, {2, -1, 3}, {2, 0, 2}, {2, 1, 3}, {3, -1, 2}, {3, 0, 1}, {3, 1, 2}, {3, 2, 1}, {4, 3, 0}};
        for (int[] one : due) {
            Edge.due(x, "slips(" + one[0] + ", " + one[1] + ")", one[2]);
        }
    }

    // Terms 4: "It is COPIED OF that from which SLIPS are fewest (of like ones from none, then of the least MAP)."
    private static void copiedOfTheNearest() {
        Due.promise(34);
        RiverHead x = maps();
        int[] due = {-1, 0, 0, 0, 3, 3, 3, 3, 3};
        for (int map = 0; map < 9; map++) {
            Edge.due(x, "copied(" + map + ")", due[map]);
        }
        // 3 of map 0 from none, 1 of map 1 from 0, 2 of map 2 from 0
        Due.promise(35);
        Edge.due(x, "guesses()", 6);
    }

    // Terms 4: "CLAIMS 0, 1, .. (at most 20): a PARTY says that at a ROW of its book it was in a CELL."
    private static void claimsAtRows() {
        Due.promise(37);
        // party 0 was in line 0, then a step south of it; party 1 in line 5
        RiverHead x = Edge.after("row(0, 3, 0, 0)", "row(1, 3, 500, 0)", "row(0, 1, 201, 0)");
        int[][] claims = {{0, 3}, {1, 3}, {1, 43}, {2, 3}, {2, 11}, {0, 11}};
        int[] due = {1, 0, 1, 0, 1, 0};
        for (int claim = 0; claim < claims.length; claim++) {
            Edge.due(x, "claim(" + claims[claim][0] + ", " + claims[claim][1] + ")", claim);
        }
        Due.promise(38);
        for (int claim = 0; claim < claims.length; claim++) {
            Edge.due(x, "call(" + claim + ")", due[claim]);
        }
    }

    // Terms 5: "A DAY is closed: (1) By PARTIES: one that is GOING with GOODS above 0 goes a step"
    private static void dayIsClosed() {
        Due.promise(44);
        // day 119, the last of month 3: party 0 comes to a lake with its last goods, party 1 leaves it
        RiverHead x = Edge.after("tick(119)", "water(1, 50)", "goods(0, 1)", "go(0, 1)", "set(1, 1)", "goods(1, 5)", "go(1, 3)",
            "row(0, 0, 0, 0)", "row(0, 0, 0, 1)", "row(0, 0, 0, 0)", "strike(2, true)", "claim(0, 0)", "tick(1)");
        int[][] parties = {{1, 0, 1, -1}, {2, 4, 0, 3}, {0, 0, 0, -1}};
        for (int party = 0; party < 3; party++) {
            for (int what = 0; what < 4; what++) {
                Edge.due(x, "party(" + party + ", " + what + ")", parties[party][what]);
            }
        }
        int[] book = {2, 1, 1, 4, 1, 1};
        for (int what = 0; what < 6; what++) {
            Edge.due(x, "book(3, " + what + ")", book[what]);
        }
        Edge.due(x, "look(5)", 120);
    }

    // Promise 36: "The first MAP on which a CELL is though no ROW that is KNOWN on the open DAY and not STRUCK, of a kind other than DRAWN (nor one under it), has it in WHERE as of that DAY."
    private static void shore() {
        Due.promise(36);
        // cell 20 is drawn on maps 5 and 2, by a party that had a star of line 0; line 2 is what party 1 saw, known from day 3 on
        RiverHead x = Edge.after("row(0, 5, 2005, 0)", "row(0, 6, 2002, 0)", "row(0, 3, 0, 0)", "row(1, 3, 200, 3)");
        Edge.due(x, "shore(20)", 2);
        x.tick(3);
        Edge.due(x, "shore(20)", Due.NONE);
        // three steps east behind it leave columns 0 to 4 of the line, then columns 3 to 7; cell 20 is in column 4
        Edge.due(x, "row(1, 1, 103, 0)", 4);
        Edge.due(x, "shore(20)", Due.NONE);
        x.strike(3, true);
        Edge.due(x, "shore(20)", Due.NONE);
        Edge.due(x, "row(1, 3, 300, 0)", 5);
        Edge.due(x, "shore(20)", 2);
        x.strike(1, true);
        Edge.due(x, "shore(20)", 5);
        // five steps east leave columns 0 to 2, then 5 to 7
        Edge.due(Edge.after("row(0, 5, 2002, 0)", "row(1, 3, 200, 0)", "row(1, 1, 105, 0)"), "shore(20)", 2);
    }

    // Promise 41: "THE PLAN: of a set of ROWS (at most 8, of one PARTY's book) the fewest that, if they were STRUCK, would leave a CELL in WHERE at the last ROW of that book, as of the open DAY;"
    private static void plan() {
        Due.promise(41);
        // a star of line 0, one step south, a star of line 3: no cell is left
        RiverHead x = Edge.after("row(0, 3, 0, 0)", "row(1, 3, 500, 0)", "row(0, 1, 201, 0)", "row(0, 3, 300, 0)", "row(0, 0, 0, 0)");
        Edge.due(x, "where(4, 0)", 0);
        // rows 0, 2, 3 and 4 are those of the book; without row 0, or without row 3, a cell is left
        int[][] plans = {{0b11101, 0b0001}, {0b01100, 0b10}, {0b11000, 0b01}, {0b01000, 0b1}, {0b00001, 0b1}, {0b10100, Due.NONE},
            {0b00100, Due.NONE}, {0b01001, 0b01}, {0b00010, 0}};
        for (int[] one : plans) {
            Edge.due(x, "plan(" + one[0] + ")", one[1]);
        }
        // nothing is struck by it
        Edge.due(x, "look(2)", 0);
        Edge.due(x, "where(4, 0)", 0);
    }

    // Promise 41: "the fewest that, if they were STRUCK, would leave a CELL"
    private static void planOfWhatIsStruck() {
        Due.promise(41);
        // of two that are enough each, one is struck already: then none is the fewest
        RiverHead x = Edge.after("row(0, 3, 0, 0)", "row(0, 3, 500, 0)");
        Edge.due(x, "plan(3)", 0b01);
        x.strike(1, true);
        Edge.due(x, "plan(3)", 0b00);
        // two must be struck: the first star and the march of five steps, or the star and the march behind them
        RiverHead y = Edge.after("row(0, 3, 0, 0)", "row(0, 1, 205, 0)", "row(0, 3, 400, 0)", "row(0, 1, 201, 0)", "row(0, 3, 500, 0)");
        Edge.due(y, "plan(" + 0b11111 + ")", 0b00011);
        Edge.due(y, "plan(" + 0b11101 + ")", 0b0110);
        Edge.due(y, "plan(" + 0b10101 + ")", Due.NONE);
        // rows 0, 1 and 3 struck leave stars of lines 4 and 5, which is none: but two of them are not too few
        Edge.due(y, "plan(" + 0b01011 + ")", 0b011);
    }
}
