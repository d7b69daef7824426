/** The boundary cases of promises 11 to 15 and of the parties of section 2, sentence by sentence. */
public final class PartiesEdgesTest {
    public static void main(String[] args) {
        goods();
        setBeyond();
        setGoing();
        goBeyond();
        goState();
        goThere();
        goFar();
        partyBeyond();
        partyNowhere();
        partyRows();
        partyWatch();
        stopBeyond();
        stopEnds();
        stopState();
        Due.end();
    }

    // Promise 11: "BEYOND."
    // Terms 2: "PARTIES 0 to 4"
    // Terms 2: "with GOODS (0 to 999, 0 at first)"
    private static void goods() {
        Due.promise(11);
        Edge.beyondEnds("goods(#, 1)", 0, 4);
        Edge.beyondEnds("goods(0, #)", 0, 999);
        RiverHead x = new RiverHead();
        Edge.due(x, "goods(0, 999)", 0);
        Edge.due(x, "goods(0, 0)", 999);
        Edge.due(x, "goods(4, 1)", 0);
        Edge.due(x, "goods(4, 999)", 1);
        Edge.due(x, "goods(0, 0)", 0);
    }

    // Promise 12: "BEYOND."
    private static void setBeyond() {
        Due.promise(12);
        Edge.beyondEnds("set(#, 1)", 0, 4);
        Edge.beyondEnds("set(1, #)", 0, 47);
        RiverHead x = new RiverHead();
        Edge.due(x, "set(0, 47)", 0);
        Edge.due(x, "set(4, 47)", 0);
        Edge.due(x, "set(0, 0)", 47);
        Edge.due(x, "set(4, 0)", 47);
    }

    // Promise 12: "A PARTY is in a CELL (GOING no more): where it was."
    private static void setGoing() {
        Due.promise(12);
        for (int cell : new int[] {0, 20, 47}) {
            RiverHead x = Edge.after("goods(1, 9)", "go(1, 47)");
            Edge.due(x, "party(1, 3)", 47);
            Edge.due(x, "set(1, " + cell + ")", 0);
            Edge.due(x, "party(1, 3)", -1);
            Edge.due(x, "tick(1)", 1);
            Edge.due(x, "party(1, 0)", cell);
        }
        // one that is refused goes on
        Edge.refused(Due.BEYOND, "set(1, 48)", "go(1, 5)");
    }

    // Promise 13: "BEYOND."
    private static void goBeyond() {
        Due.promise(13);
        Edge.beyondEnds("go(#, 1)", 0, 4);
        Edge.beyondEnds("go(1, #)", 0, 47);
        // ahead of STATE: party 2 has no goods
        Edge.beyondEnds("go(2, #)", 0, 47);
        Edge.taken(0, "go(3, 47)");
        Edge.taken(12, "go(3, 0)");
    }

    // Promise 13: "STATE: it has no GOODS."
    private static void goState() {
        Due.promise(13);
        Edge.allRefused(Due.STATE, "go(2, 1)", "go(2, 0)", "go(4, 30)", "go(2, 47)");
        Edge.refused(Due.STATE, "go(1, 5)", "goods(1, 0)");
        Edge.taken(1, "go(2, 1)", "goods(2, 1)");
        // one that has no goods any more is going still, to where it was
        RiverHead x = Edge.after("goods(0, 1)", "go(0, 9)", "goods(0, 0)");
        Edge.due(x, "go(0, 0)", Due.STATE);
        Edge.due(x, "party(0, 3)", 9);
    }

    // Promise 13: "0: it is there (and not GOING)."
    private static void goThere() {
        Due.promise(13);
        RiverHead x = Edge.after("goods(0, 1)", "set(0, 47)", "go(0, 0)");
        Edge.due(x, "go(0, 47)", 0);
        Edge.due(x, "party(0, 3)", -1);
        x.set(0, 0);
        x.go(0, 47);
        Edge.due(x, "go(0, 0)", 0);
        Edge.due(x, "party(0, 3)", -1);
    }

    // Promise 13: "A PARTY is GOING to a CELL: how far that is (by x and y apart, together);"
    private static void goFar() {
        Due.promise(13);
        int[][] far = {{0, 47, 12}, {47, 0, 12}, {7, 40, 12}, {40, 7, 12}, {7, 8, 8}, {8, 7, 8}, {0, 7, 7}, {0, 40, 5}, {0, 1, 1}};
        RiverHead x = Edge.after("goods(0, 1)");
        for (int[] one : far) {
            x.set(0, one[0]);
            Edge.due(x, "go(0, " + one[1] + ")", one[2]);
            Edge.due(x, "party(0, 3)", one[1]);
        }
    }

    // Promise 14: "BEYOND."
    private static void partyBeyond() {
        Due.promise(14);
        Edge.beyondEnds("party(#, 0)", 0, 4);
        Edge.beyondEnds("party(0, #)", 0, 5);
        Edge.refused(Due.BEYOND, "party(5, 6)");
    }

    // Promise 14: "3 where it is GOING (-1: nowhere)"
    private static void partyNowhere() {
        Due.promise(14);
        RiverHead x = Edge.after("goods(4, 9)", "set(4, 1)");
        Edge.due(x, "party(4, 3)", -1);
        x.go(4, 0);
        Edge.due(x, "party(4, 3)", 0);
        x.tick(1);
        Edge.due(x, "party(4, 3)", -1);
    }

    // Promise 14: "4 ROWS of its book"
    private static void partyRows() {
        Due.promise(14);
        RiverHead x = Edge.after(Edge.times(40, "row(4, 0, 0, 720)"));
        Edge.due(x, "party(4, 4)", 40);
        Edge.due(x, "party(3, 4)", 0);
        // struck ones, and those not known, are rows of the book
        x.strike(39, true);
        Edge.due(x, "party(4, 4)", 40);
    }

    // Promise 14: "5 the last DAY on which its WATCH is right (3599: all)."
    private static void partyWatch() {
        Due.promise(14);
        RiverHead x = new RiverHead();
        Edge.due(x, "party(0, 5)", 3599);
        x.stop(0, 3599);
        Edge.due(x, "party(0, 5)", 3598);
        x.stop(0, 1);
        Edge.due(x, "party(0, 5)", 0);
        x.stop(0, 0);
        Edge.due(x, "party(0, 5)", -1);
        Edge.due(x, "party(1, 5)", 3599);
    }

    // Promise 15: "BEYOND."
    private static void stopBeyond() {
        Due.promise(15);
        Edge.beyondEnds("stop(#, 5)", 0, 4);
        Edge.beyondEnds("stop(1, #)", 0, 3599);
        // ahead of STATE
        Edge.refused(Due.BEYOND, "stop(2, 3600)");
        Edge.refused(Due.BEYOND, "stop(2, -1)", "stop(2, 0)");
        Edge.refused(Due.BEYOND, "stop(5, 3599)");
    }

    // Promise 15: "A WATCH stopped on a DAY: it is right up to the DAY before: up to which it was so till now."
    private static void stopEnds() {
        Due.promise(15);
        RiverHead x = new RiverHead();
        Edge.due(x, "stop(0, 3599)", 3599);
        Edge.due(x, "stop(0, 3598)", 3598);
        Edge.due(x, "stop(0, 1)", 3597);
        Edge.due(x, "stop(0, 0)", 0);
        Edge.due(x, "party(0, 5)", -1);
        Edge.due(x, "stop(4, 0)", 3599);
        Edge.due(x, "party(4, 5)", -1);
    }

    // Promise 15: "STATE: it was not right so long."
    private static void stopState() {
        Due.promise(15);
        // the watch of party 2 stopped on day 100
        Edge.allRefused(Due.STATE, "stop(2, 100)", "stop(2, 101)", "stop(2, 3599)");
        Edge.taken(99, "stop(2, 99)");
        Edge.taken(99, "stop(2, 0)");
        Edge.refused(Due.STATE, "stop(2, 0)", "stop(2, 0)");
        Edge.refused(Due.STATE, "stop(1, 3599)", "stop(1, 3599)");
        Edge.taken(3598, "stop(1, 3598)", "stop(1, 3599)");
    }
}
