/** The boundary cases of promises 44 to 47 and of section 5, sentence by sentence. */
public final class DaysEdgesTest {
    /** From the open day of a rich object to the last day. */
    private static final int RICH_REST = 3599 - 92;

    public static void main(String[] args) {
        tickBeyond();
        tickFull();
        tickOneBehindTheOther();
        stepWithGoods();
        stepOfLikeOnes();
        stepToTheEnd();
        goodsNotBelowNone();
        feverByWater();
        feverByMonths();
        feverBehindTheStep();
        feverAtTwenty();
        feverStopsTheWatch();
        feverOfAStoppedWatch();
        bookOnTheLastDay();
        bookCounts();
        bookOfAllFull();
        bookBeyond();
        bookNone();
        checkBeyond();
        checkNone();
        checkMissing();
        checkSize();
        checkNumbers();
        checkOfCutNumbers();
        known();
        Due.end();
    }

    // Promise 44: "BEYOND: n."
    // Promise 44: "n DAYS (1 to 360) are closed, one behind the other: the open one then."
    private static void tickBeyond() {
        Due.promise(44);
        Edge.beyondEnds("tick(#)", 1, 360);
        Edge.taken(93, "tick(1)");
        Edge.taken(92 + 360, "tick(360)");
        // ahead of FULL
        for (int wrong : Edge.beyond(1, 360)) {
            Edge.refused(Due.BEYOND, "tick(" + wrong + ")", Edge.days(RICH_REST));
        }
    }

    // Promise 44: "FULL: it would be above 3599."
    // Terms 1: "the open one is 0 at first, 3599 at most"
    private static void tickFull() {
        Due.promise(44);
        Edge.refused(Due.FULL, "tick(1)", Edge.days(RICH_REST));
        Edge.refused(Due.FULL, "tick(360)", Edge.days(RICH_REST));
        Edge.refused(Due.FULL, "tick(2)", Edge.days(RICH_REST - 1));
        Edge.refused(Due.FULL, "tick(360)", Edge.days(RICH_REST - 359));
        Edge.taken(3599, "tick(1)", Edge.days(RICH_REST - 1));
        Edge.taken(3599, "tick(359)", Edge.days(RICH_REST - 359));
        Edge.taken(3599, "tick(360)", Edge.days(RICH_REST - 360));
    }

    // Promise 44: "n DAYS (1 to 360) are closed, one behind the other: the open one then."
    // Terms 5: "(4) The next DAY is open."
    private static void tickOneBehindTheOther() {
        Due.promise(44);
        RiverHead once = Edge.rich("tick(120)");
        RiverHead oneByOne = Edge.rich(Edge.times(120, "tick(1)"));
        for (int party = 0; party < 5; party++) {
            for (int what = 0; what < 6; what++) {
                Due.due("party(" + party + ", " + what + ")", once.party(party, what), oneByOne.party(party, what));
            }
        }
        for (int month = 0; month < 8; month++) {
            for (int what = 0; what < 6; what++) {
                Due.due("book(" + month + ", " + what + ")", once.book(month, what), oneByOne.book(month, what));
            }
        }
        RiverHead x = new RiverHead();
        for (int day = 1; day <= 31; day++) {
            Edge.due(x, "tick(1)", day);
            Edge.due(x, "look(5)", day);
        }
    }

    // Terms 5: "one that is GOING with GOODS above 0 goes a step"
    private static void stepWithGoods() {
        Due.promise(44);
        RiverHead x = Edge.after("goods(0, 1)", "go(0, 2)", "goods(1, 1)", "go(1, 2)", "goods(1, 0)", "goods(2, 5)");
        x.tick(1);
        // the last goods still carry a step; without goods, or not going, none
        Edge.due(x, "party(0, 0)", 1);
        Edge.due(x, "party(0, 1)", 0);
        Edge.due(x, "party(1, 0)", 0);
        Edge.due(x, "party(1, 3)", 2);
        Edge.due(x, "party(2, 0)", 0);
        x.tick(1);
        Edge.due(x, "party(0, 0)", 1);
        Edge.due(x, "party(0, 3)", 2);
        // new goods, and it goes on by itself
        x.goods(0, 1);
        x.tick(1);
        Edge.due(x, "party(0, 0)", 2);
        Edge.due(x, "party(0, 3)", -1);
    }

    // Terms 5: "to that of the NEIGHBOURS of its CELL (of like ones the first) that is nearest to where it is GOING (by x and y apart, together)"
    // Terms 1: "in this order: the one with y less by 1 (way 0), x more by 1 (1), y more by 1 (2), x less by 1 (3)."
    private static void stepOfLikeOnes() {
        Due.promise(44);
        // from, to, where one step leads
        int[][] steps = {{27, 10, 19}, {27, 12, 19}, {27, 44, 28}, {27, 42, 35}, {27, 26, 26}, {27, 24, 26}, {27, 43, 35}, {27, 3, 19},
            {27, 31, 28}, {0, 47, 1}, {47, 0, 39}, {7, 40, 15}, {40, 7, 32}, {7, 8, 15}, {8, 7, 0}, {0, 40, 8}, {47, 40, 46}};
        RiverHead x = Edge.after("goods(0, 99)");
        for (int[] step : steps) {
            x.set(0, step[0]);
            x.go(0, step[1]);
            x.tick(1);
            Due.due("from " + step[0] + " to " + step[1], x.party(0, 0), step[2]);
        }
    }

    // Terms 5: "there it is GOING no more."
    private static void stepToTheEnd() {
        Due.promise(44);
        RiverHead x = Edge.after("goods(0, 999)", "go(0, 47)", "tick(11)");
        Edge.due(x, "party(0, 0)", 39);
        Edge.due(x, "party(0, 3)", 47);
        x.tick(1);
        Edge.due(x, "party(0, 0)", 47);
        Edge.due(x, "party(0, 3)", -1);
        x.tick(1);
        Edge.due(x, "party(0, 0)", 47);
        // just enough goods, and one too few
        RiverHead y = Edge.after("goods(0, 12)", "go(0, 47)", "goods(1, 11)", "go(1, 47)", "tick(360)");
        Edge.due(y, "party(0, 0)", 47);
        Edge.due(y, "party(0, 3)", -1);
        Edge.due(y, "party(1, 0)", 39);
        Edge.due(y, "party(1, 3)", 47);
    }

    // Terms 5: "GOODS are 1 less, not below 0"
    private static void goodsNotBelowNone() {
        Due.promise(44);
        RiverHead x = Edge.after("goods(0, 999)", "goods(1, 1)", "goods(2, 2)", "tick(1)");
        int[] due = {998, 0, 1, 0, 0};
        for (int party = 0; party < 5; party++) {
            Edge.due(x, "party(" + party + ", 1)", due[party]);
        }
        x.tick(1);
        Edge.due(x, "party(1, 1)", 0);
        Edge.due(x, "party(2, 1)", 0);
        x.tick(360);
        Edge.due(x, "party(0, 1)", 999 - 362);
        Edge.due(x, "party(2, 1)", 0);
        x.tick(360);
        x.tick(360);
        Edge.due(x, "party(0, 1)", 0);
    }

    // Terms 5: "in a CELL with WATER of 50 or more"
    private static void feverByWater() {
        Due.promise(44);
        RiverHead x = Edge.after("tick(90)", "water(0, 49)", "water(1, 50)", "water(2, 99)", "set(1, 1)", "set(2, 2)", "tick(1)");
        Edge.due(x, "party(0, 2)", 0);
        Edge.due(x, "party(1, 2)", 1);
        Edge.due(x, "party(2, 2)", 1);
        Edge.on(x, "water(0, 50)", "water(1, 49)", "tick(1)");
        Edge.due(x, "party(0, 2)", 1);
        Edge.due(x, "party(1, 2)", 1);
    }

    // Terms 5: "in MONTHS 3 to 5, FEVER is 1 more"
    private static void feverByMonths() {
        Due.promise(44);
        // the days that are closed, of two years, the last one of ten, too
        int[] first = {0, 89, 90, 179, 180, 359, 449, 450, 539, 540, 3329, 3330, 3419, 3420};
        int[] due = {0, 0, 1, 1, 0, 0, 0, 1, 1, 0, 0, 1, 1, 0};
        for (int i = 0; i < first.length; i++) {
            RiverHead x = Edge.after(Edge.both(Edge.days(first[i]), "water(0, 50)", "tick(1)"));
            Due.due("fever of day " + first[i], x.party(0, 2), due[i]);
        }
    }

    // Terms 5: "(1) By PARTIES: one that is GOING"
    // Terms 5: "(2) By PARTIES: GOODS are 1 less"
    private static void feverBehindTheStep() {
        Due.promise(44);
        RiverHead x = Edge.after("tick(90)", "water(1, 50)", "goods(0, 1)", "go(0, 1)", "set(1, 1)", "goods(1, 1)", "go(1, 2)", "tick(1)");
        Edge.due(x, "party(0, 2)", 1);
        Edge.due(x, "party(1, 2)", 0);
    }

    // Terms 5: "at 20 it is 0, and its WATCH stops on this DAY, if it was right."
    private static void feverAtTwenty() {
        Due.promise(44);
        RiverHead x = Edge.after("water(0, 50)", "tick(90)", "tick(19)");
        for (int party = 0; party < 5; party++) {
            Edge.due(x, "party(" + party + ", 2)", 19);
            Edge.due(x, "party(" + party + ", 5)", 3599);
        }
        x.tick(1);
        for (int party = 0; party < 5; party++) {
            Edge.due(x, "party(" + party + ", 2)", 0);
            Edge.due(x, "party(" + party + ", 5)", 108);
        }
        // from 0 on again: 70 days are left of the months, and fever lasts from year to year
        x.tick(19);
        Edge.due(x, "party(0, 2)", 19);
        x.tick(1);
        Edge.due(x, "party(0, 2)", 0);
        x.tick(50);
        Edge.due(x, "look(5)", 180);
        Edge.due(x, "party(0, 2)", 10);
        x.tick(270);
        Edge.due(x, "party(0, 2)", 10);
        x.tick(9);
        Edge.due(x, "party(0, 2)", 19);
        x.tick(1);
        Edge.due(x, "party(0, 2)", 0);
        Edge.due(x, "party(0, 5)", 108);
    }

    // Terms 5: "its WATCH stops on this DAY, if it was right."
    // Terms 2: "Their WATCH is right up to a DAY"
    private static void feverStopsTheWatch() {
        Due.promise(44);
        // a star of the day on which it stopped fits any cell, one of the day before its line
        RiverHead x = Edge.after("water(0, 50)", "tick(108)", "row(0, 3, 0, 0)", "tick(1)", "row(0, 3, 0, 0)");
        Edge.due(x, "fits(1)", 0xFF);
        x.tick(1);
        Edge.due(x, "fits(0)", 0xFF);
        Edge.due(x, "fits(1)", Due.ALL);
    }

    // Terms 5: "if it was right."
    private static void feverOfAStoppedWatch() {
        Due.promise(44);
        // day 109 is the twentieth: stopped on the day before, on that day, on the day after
        RiverHead x = Edge.after("water(0, 50)", "stop(0, 108)", "stop(1, 109)", "stop(2, 110)", "stop(3, 0)", "tick(110)");
        int[] right = {107, 108, 108, -1, 108};
        for (int party = 0; party < 5; party++) {
            Edge.due(x, "party(" + party + ", 5)", right[party]);
            Edge.due(x, "party(" + party + ", 2)", 0);
        }
    }

    // Terms 5: "(3) On the last DAY of a MONTH THE BOOK of it (of 120)"
    private static void bookOnTheLastDay() {
        Due.promise(45);
        RiverHead x = Edge.after("goods(0, 999)", "tick(29)");
        Edge.due(x, "book(0, 3)", Due.NONE);
        x.tick(1);
        Edge.due(x, "book(0, 3)", 969);
        Edge.due(x, "book(1, 3)", Due.NONE);
        x.tick(29);
        Edge.due(x, "book(1, 3)", Due.NONE);
        x.tick(1);
        Edge.due(x, "book(1, 3)", 939);
        // month 11, and month 0 of the next year, which is book 12
        x.tick(299);
        Edge.due(x, "book(11, 3)", Due.NONE);
        x.tick(1);
        Edge.due(x, "book(11, 3)", 639);
        Edge.due(x, "book(12, 3)", Due.NONE);
        x.tick(30);
        Edge.due(x, "book(12, 3)", 609);
        Edge.due(x, "book(0, 3)", 969);
    }

    // Terms 5: "0 ROWS that are KNOWN, 1 of these those that are STRUCK, 2 CLAIMS, 3 GOODS of all, 4 FEVER of all, 5 PARTIES that are GOING."
    private static void bookCounts() {
        Due.promise(45);
        // nothing at all
        RiverHead none = Edge.after("tick(30)");
        for (int what = 0; what < 6; what++) {
            Edge.due(none, "book(0, " + what + ")", 0);
        }
        // known on the day that is closed, not on the next; struck ones that are not known do not count
        RiverHead x = Edge.after("row(0, 0, 0, 29)", "row(0, 0, 0, 30)", "row(1, 0, 0, 29)", "row(1, 0, 0, 30)", "strike(2, true)",
            "strike(3, true)", "tick(30)");
        Edge.due(x, "book(0, 0)", 2);
        Edge.due(x, "book(0, 1)", 1);
        x.tick(30);
        Edge.due(x, "book(1, 0)", 4);
        Edge.due(x, "book(1, 1)", 2);
        // what is told behind the step and the goods of that day: one arrives, one has its last goods
        RiverHead y = Edge.after("tick(29)", "goods(0, 1)", "go(0, 1)", "goods(1, 1)", "go(1, 2)", "goods(2, 0)", "tick(1)");
        Edge.due(y, "book(0, 3)", 0);
        Edge.due(y, "book(0, 5)", 1);
        // fever at 20 is none
        RiverHead z = Edge.after("tick(100)", "water(0, 50)", "tick(19)", "set(1, 5)", "tick(1)");
        Edge.due(z, "book(3, 4)", 19);
    }

    // Terms 5: "0 ROWS that are KNOWN, 1 of these those that are STRUCK, 2 CLAIMS, 3 GOODS of all, 4 FEVER of all, 5 PARTIES that are GOING."
    private static void bookOfAllFull() {
        Due.promise(45);
        RiverHead x = Edge.after(Edge.times(40, "row(0, 0, 0, 0)"));
        for (int row = 0; row < 40; row++) {
            x.strike(row, true);
        }
        Edge.on(x, Edge.times(20, "claim(39, 0)"));
        Edge.on(x, "water(0, 50)", "tick(109)", "water(0, 0)", "tick(10)");
        for (int party = 0; party < 5; party++) {
            x.goods(party, 999);
            x.go(party, 47);
        }
        x.tick(1);
        int[] due = {40, 40, 20, 5 * 998, 5 * 19, 5};
        for (int what = 0; what < 6; what++) {
            Edge.due(x, "book(3, " + what + ")", due[what]);
        }
    }

    // Promise 45: "BEYOND."
    // Promise 45: "Number what (0 to 5) of THE BOOK of a MONTH (0 to 119, from DAY 0 on)."
    private static void bookBeyond() {
        Due.promise(45);
        Edge.beyondEnds("book(#, 0)", 0, 119);
        Edge.beyondEnds("book(0, #)", 0, 5);
        // ahead of NONE
        Edge.beyondEnds("book(119, #)", 0, 5);
    }

    // Promise 45: "NONE: it isn't closed."
    private static void bookNone() {
        Due.promise(45);
        Edge.allRefused(Due.NONE, "book(3, 0)", "book(119, 5)");
        Edge.taken(0, "book(2, 1)");
        Edge.refused(Due.NONE, "book(3, 0)", "tick(27)");
        Edge.taken(8, "book(3, 0)", "tick(28)");
        // the last month is never closed
        Edge.refused(Due.NONE, "book(119, 0)", Edge.days(RICH_REST));
        Edge.taken(9, "book(118, 0)", Edge.days(RICH_REST));
        // one that was closed isn't any more: day 60 was kept
        Edge.refused(Due.NONE, "book(2, 0)", "undo()");
        Edge.taken(7, "book(1, 0)", "undo()");
        Edge.due(new RiverHead(), "book(0, 0)", Due.NONE);
    }

    // Promise 46: "BEYOND: no such MONTH, sheet."
    private static void checkBeyond() {
        Due.promise(46);
        Edge.beyondEnds("check(#, 0)", 0, 119);
        Edge.beyondEnds("check(0, #)", 0, 3);
        // ahead of NONE and of MISSING
        Edge.beyondEnds("check(119, #)", 0, 3);
        Edge.beyondEnds("check(#, 3)", 0, 119);
    }

    // Promise 46: "NONE: it isn't closed."
    private static void checkNone() {
        Due.promise(46);
        Edge.allRefused(Due.NONE, "check(3, 0)", "check(119, 0)");
        // ahead of MISSING and of SIZE
        Edge.allRefused(Due.NONE, "check(3, 3)", "check(3, 1)");
        Edge.taken(0, "check(2, 0)");
        Edge.taken(0, "check(3, 0)", "tick(28)");
        Edge.refused(Due.NONE, "check(3, 0)", "tick(27)");
        Edge.refused(Due.NONE, "check(119, 0)", Edge.days(RICH_REST));
        Edge.taken(0, "check(118, 0)", Edge.days(RICH_REST));
    }

    // Promise 46: "MISSING."
    private static void checkMissing() {
        Due.promise(46);
        Edge.allRefused(Due.MISSING, "check(0, 3)", "check(2, 3)");
        Edge.refused(Due.MISSING, "check(0, 0)", "sheet(0, 0, 6)");
    }

    // Promise 46: "SIZE: it has not 6."
    private static void checkSize() {
        Due.promise(46);
        for (int n : new int[] {0, 1, 5, 7, 40}) {
            Edge.refused(Due.SIZE, "check(0, 3)", "sheet(3, 64, " + n + ")");
        }
        Edge.taken(0, "check(0, 3)", "sheet(3, 64, 6)");
    }

    // Promise 46: "The first number of a sheet (from 0) that is not as THE BOOK of a MONTH has it; 6 if all are."
    private static void checkNumbers() {
        Due.promise(46);
        RiverHead x = Edge.after("tick(30)", "sheet(3, 8, 6)");
        Edge.due(x, "check(0, 3)", 6);
        for (int wrong = 5; wrong >= 0; wrong--) {
            x.write(3, wrong, 1);
            Edge.due(x, "check(0, 3)", wrong);
        }
        for (int wrong = 0; wrong < 6; wrong++) {
            x.write(3, wrong, 0);
            Edge.due(x, "check(0, 3)", wrong + 1);
        }
        // one less and one more than a book's number
        RiverHead y = Edge.after("goods(0, 130)", "tick(30)", "sheet(0, 16, 6)", "write(0, 3, 100)");
        Edge.due(y, "check(0, 0)", 6);
        y.write(0, 3, 99);
        Edge.due(y, "check(0, 0)", 3);
        y.write(0, 3, 101);
        Edge.due(y, "check(0, 0)", 3);
    }

    // Promise 46: "that is not as THE BOOK of a MONTH has it"
    // Promise 49: "Number i of a sheet becomes v (its lowest bits)"
    private static void checkOfCutNumbers() {
        Due.promise(46);
        // a book has 400, of which eight bits hold 144 alone
        RiverHead x = Edge.after("goods(0, 430)", "tick(30)", "sheet(0, 8, 6)", "write(0, 3, 400)", "sheet(1, 16, 6)",
            "write(1, 3, 65936)", "sheet(2, 64, 6)", "write(2, 3, " + (400 + (1L << 32)) + ")");
        Edge.due(x, "check(0, 0)", 3);
        Edge.due(x, "check(0, 1)", 6);
        Edge.due(x, "check(0, 2)", 3);
    }

    // Promise 47: "BEYOND."
    // Promise 47: "How many ROWS are KNOWN on a DAY."
    // Terms 2: "KNOWN from a DAY on (not before its DAY)"
    private static void known() {
        Due.promise(47);
        Edge.beyondEnds("known(#)", 0, 3599);
        // of nine rows six are known from day 0 on, then come those of days 30, 65 and 720
        int[][] due = {{0, 6}, {29, 6}, {30, 7}, {64, 7}, {65, 8}, {719, 8}, {720, 9}, {3599, 9}};
        for (int[] one : due) {
            Edge.taken(one[1], "known(" + one[0] + ")");
        }
        Edge.due(new RiverHead(), "known(0)", 0);
        Edge.due(new RiverHead(), "known(3599)", 0);
        RiverHead full = Edge.after(Edge.times(40, "row(0, 0, 0, 0)"));
        Edge.due(full, "known(0)", 40);
        full.strike(0, true);
        Edge.due(full, "known(0)", 40);
        RiverHead late = Edge.after(Edge.both(Edge.days(2880), "row(0, 0, 0, 719)", "row(0, 0, 0, 720)"));
        Edge.due(late, "known(3598)", 0);
        Edge.due(late, "known(3599)", 1);
        Edge.due(late, "known(0)", 0);
    }
}
