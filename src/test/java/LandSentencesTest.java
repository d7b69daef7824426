/** Sentences that no boundary case quotes: what all acts share, section 1, promises 2 to 4, 8 and 10. */
public final class LandSentencesTest {
    public static void main(String[] args) {
        lastCall();
        setsAreBits();
        setsOfClaimsAreBits();
        quotientsAreCut();
        eachCellHasItsOwn();
        runsDown();
        days();
        heightBecomes();
        waterBecomes();
        kingBecomes();
        aboveInAMonth();
        sourceInAMonth();
        Due.end();
    }

    // What it is: "An object is used for at most 512 calls after it has been made"
    private static void lastCall() {
        Due.promise(0);
        RiverHead x = new RiverHead();
        for (int call = 1; call <= 512; call++) {
            Due.due("call " + call, x.water(call % 48, call % 100), call > 48 ? (call - 48) % 100 : 0);
        }
        // as many calls that are refused, the last one counts them
        RiverHead y = new RiverHead();
        for (int call = 1; call < 512; call++) {
            y.goods(5, call);
        }
        Due.due("call 512", y.status(0), 511);
    }

    // Terms 0: "Sets are told by bits."
    private static void setsAreBits() {
        Due.promise(8);
        RiverHead x = new RiverHead();
        for (int cell = 0; cell < 48; cell++) {
            Edge.due(x, "above(" + cell + ", 0)", 1L << cell);
        }
        Due.promise(9);
        for (int month = 0; month < 12; month++) {
            RiverHead y = Edge.after("high(0, 1)", "link(0, 1, " + (1 << month) + ")");
            Edge.due(y, "joined(0, 1)", 1 << month);
        }
        Due.promise(31);
        // king 1 has one cell alone, and who leaves it pays
        for (int cell : new int[] {0, 20, 31, 32, 47}) {
            Edge.due(Edge.after("king(" + cell + ", 1)"), "pass(" + cell + ", 0)", 1L << cell);
        }
        Due.promise(32);
        for (int cell : new int[] {0, 31, 32, 47}) {
            Edge.due(Edge.after("row(0, 5, " + 100 * cell + ", 0)"), "map(0)", 1L << cell);
        }
    }

    // Terms 0: "Sets are told by bits."
    private static void setsOfClaimsAreBits() {
        Due.promise(39);
        // one of twenty claims leans on the star of party 0, the others on a row of party 1
        for (int leaning = 0; leaning < 20; leaning++) {
            RiverHead x = Edge.after("row(0, 3, 0, 0)", "row(1, 0, 0, 0)");
            for (int claim = 0; claim < 20; claim++) {
                x.claim(claim == leaning ? 0 : 1, 47);
            }
            Edge.due(x, "fall(0)", 1 << leaning);
        }
    }

    // Terms 0: "Quotients are cut."
    private static void quotientsAreCut() {
        Due.promise(21);
        // y is the cell by 8: a star that is not off at all fits one line
        for (int y = 0; y < 6; y++) {
            Edge.due(Edge.after("row(0, 3, " + 100 * y + ", 0)"), "fits(0)", 0xFFL << 8 * y);
        }
        Due.promise(54);
        // the year is the day by 360
        RiverHead x = Edge.after("<bar 1", "text(1, 1)", "tick(359)");
        Edge.due(x, "look(7)", 0);
        x.tick(1);
        Edge.due(x, "look(7)", 1);
        x.tick(359);
        Edge.due(x, "look(7)", 1);
        x.tick(1);
        Edge.due(x, "look(7)", 0);
        Due.promise(28);
        // the month is what is left of the day, by 30
        RiverHead y = Edge.after("<bar 1 in 1-1", "text(0, 9)", "tick(29)");
        int[] ticks = {0, 1, 29, 1, 300, 29, 1, 28, 1};
        int[] days = {29, 30, 59, 60, 360, 389, 390, 418, 419};
        int[] due = {Due.NONE, 0, 0, Due.NONE, Due.NONE, Due.NONE, 0, 0, 0};
        for (int i = 0; i < ticks.length; i++) {
            y.tick(ticks[i]);
            Edge.due(y, "look(5)", days[i]);
            Edge.due(y, "why(1)", due[i]);
        }
    }

    // Terms 1: "Each has HEIGHT (0 to 4000), WATER (0 to 99), a KING (0 to 5): all 0 at first."
    private static void eachCellHasItsOwn() {
        Due.promise(2);
        RiverHead x = new RiverHead();
        for (int cell = 0; cell < 48; cell++) {
            Edge.due(x, "high(" + cell + ", " + (3000 + cell) + ")", 0);
            Edge.due(x, "water(" + cell + ", " + (50 + cell) + ")", 0);
            Edge.due(x, "king(" + cell + ", " + cell % 6 + ")", 0);
        }
        for (int cell = 0; cell < 48; cell++) {
            Edge.due(x, "high(" + cell + ", 0)", 3000 + cell);
            Edge.due(x, "water(" + cell + ", 0)", 50 + cell);
            Edge.due(x, "king(" + cell + ", 0)", cell % 6);
        }
    }

    // Terms 1: "LINKS 0, 1, .. (at most 40): a CELL runs into a NEIGHBOUR of less HEIGHT in some MONTHS (0 to 11)."
    private static void runsDown() {
        Due.promise(5);
        RiverHead x = Edge.after("high(27, 5)", "high(19, 4)", "high(28, 5)", "high(35, 6)");
        Edge.due(x, "link(27, 19, 1)", 0);
        Edge.due(x, "link(27, 28, 1)", Due.STATE);
        Edge.due(x, "link(27, 35, 1)", Due.STATE);
        Edge.due(x, "link(27, 26, 2)", 1);
        Edge.due(x, "mouth(27, 0)", 19);
        Edge.due(x, "mouth(27, 1)", 26);
        Edge.due(x, "mouth(27, 2)", 27);
        Edge.due(x, "link(35, 27, 5)", 2);
        Edge.due(x, "mouth(35, 0)", 19);
        Edge.due(x, "mouth(35, 1)", 35);
        Edge.due(x, "mouth(35, 2)", 27);
    }

    // Terms 1: "DAYS: the open one is 0 at first, 3599 at most; YEAR: the DAY by 360, MONTH: what is left of it, by 30."
    private static void days() {
        Due.promise(44);
        RiverHead x = Edge.after("<bar 1 in 4-4", "text(3, 3)");
        Edge.due(x, "look(5)", 0);
        // year 3 is days 1080 to 1439, its month 4 days 1200 to 1229
        int[] days = {1079, 1080, 1199, 1200, 1229, 1230, 1439, 1440, 3599};
        int[] inForce = {0, 1, 1, 1, 1, 1, 1, 0, 0};
        int[] why = {Due.NONE, Due.NONE, Due.NONE, 0, 0, Due.NONE, Due.NONE, Due.NONE, Due.NONE};
        for (int i = 0; i < days.length; i++) {
            Edge.on(x, Edge.days(days[i] - x.look(5)));
            Edge.due(x, "look(5)", days[i]);
            Edge.due(x, "look(7)", inForce[i]);
            Edge.due(x, "why(1)", why[i]);
        }
        Edge.due(x, "tick(1)", Due.FULL);
        Edge.due(x, "look(5)", 3599);
    }

    // Promise 2: "HEIGHT of a CELL becomes v: what it was."
    private static void heightBecomes() {
        Due.promise(2);
        RiverHead x = Edge.after("row(0, 2, 9900, 0)");
        Edge.due(x, "high(5, 21)", 0);
        Edge.due(x, "fits(0)", Due.ALL & ~Due.cells(5));
        Edge.due(x, "high(5, 21)", 21);
        Edge.due(x, "high(5, 20)", 21);
        Edge.due(x, "fits(0)", Due.ALL);
        Edge.due(x, "high(5, 0)", 20);
        // of that cell alone
        Edge.on(x, "high(5, 700)");
        Edge.due(x, "high(4, 0)", 0);
        Edge.due(x, "high(6, 0)", 0);
        Edge.due(x, "high(13, 0)", 0);
        Edge.due(x, "water(5, 0)", 0);
        Edge.due(x, "king(5, 0)", 0);
        Edge.due(x, "high(5, 0)", 700);
    }

    // Promise 3: "WATER of a CELL becomes v: what it was."
    private static void waterBecomes() {
        Due.promise(3);
        RiverHead x = Edge.after("mean(0, 0, 2)", "row(0, 4, 0, 0)");
        Edge.due(x, "fits(0)", 0);
        Edge.due(x, "water(41, 50)", 0);
        Edge.due(x, "fits(0)", Due.cells(41));
        Edge.due(x, "water(41, 72)", 50);
        Edge.due(x, "water(41, 49)", 72);
        Edge.due(x, "fits(0)", 0);
        Edge.due(x, "water(40, 0)", 0);
        Edge.due(x, "high(41, 0)", 0);
        Edge.due(x, "water(41, 0)", 49);
    }

    // Promise 4: "A CELL is of a KING: of whom it was."
    private static void kingBecomes() {
        Due.promise(4);
        RiverHead x = Edge.after("<pass 3 8;pass 4 9", "text(0, 9)");
        Edge.due(x, "path(0, 1)", 0);
        Edge.due(x, "king(1, 3)", 0);
        Edge.due(x, "path(0, 1)", 8);
        Edge.due(x, "king(1, 4)", 3);
        Edge.due(x, "path(0, 1)", 9);
        Edge.due(x, "king(0, 4)", 0);
        Edge.due(x, "path(0, 1)", 0);
        Edge.due(x, "king(1, 4)", 4);
        Edge.due(x, "king(2, 0)", 0);
        Edge.due(x, "water(1, 0)", 0);
    }

    /** From 0 by 1 in all months, from there to 2 in month 0 and to 9 in month 1. */
    private static RiverHead fork() {
        return Edge.after("high(0, 30)", "high(1, 20)", "high(2, 10)", "high(9, 5)", "link(0, 1, 4095)", "link(1, 2, 1)",
            "link(1, 9, 2)");
    }

    // Promise 8: "CELLS ABOVE a CELL in a MONTH, as bits."
    private static void aboveInAMonth() {
        Due.promise(8);
        RiverHead x = fork();
        Edge.due(x, "above(2, 0)", Due.cells(0, 1, 2));
        Edge.due(x, "above(9, 0)", Due.cells(9));
        Edge.due(x, "above(2, 1)", Due.cells(2));
        Edge.due(x, "above(9, 1)", Due.cells(0, 1, 9));
        for (int month = 0; month < 12; month++) {
            Edge.due(x, "above(0, " + month + ")", Due.cells(0));
            Edge.due(x, "above(1, " + month + ")", Due.cells(0, 1));
        }
        Edge.due(x, "above(2, 2)", Due.cells(2));
        Edge.due(x, "above(9, 11)", Due.cells(9));
    }

    // Promise 10: "THE SOURCE of a CELL in a MONTH."
    private static void sourceInAMonth() {
        Due.promise(10);
        RiverHead x = fork();
        Edge.due(x, "source(2, 0)", 0);
        Edge.due(x, "source(2, 1)", 2);
        Edge.due(x, "source(9, 0)", 9);
        Edge.due(x, "source(9, 1)", 0);
        Edge.due(x, "source(1, 11)", 0);
        // the month asked for says which cells are above, the open one (0) which clause counts
        Edge.on(x, "water(1, 9)", "<source most in 0-0", "text(0, 9)");
        Edge.due(x, "source(2, 0)", 1);
        Edge.due(x, "source(2, 1)", 2);
        Edge.due(x, "source(9, 1)", 1);
        x.tick(30);
        Edge.due(x, "source(2, 0)", 0);
        Edge.due(x, "source(9, 1)", 0);
    }
}
