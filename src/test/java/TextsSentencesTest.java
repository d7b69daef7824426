/** Sentences that no boundary case quotes: section 3, promises 28 to 30. */
public final class TextsSentencesTest {
    private static final String DIGITS = "0123456789";

    public static void main(String[] args) {
        readFromTheTape();
        clauseForms();
        clauseMonths();
        clauseBytes();
        clauseOfMonthsBytes();
        clauseThatCounts();
        sourceByClause();
        waysByNeighbours();
        whyOfSourceAndKings();
        priceOfAKing();
        leastCost();
        Due.end();
    }

    private static int answer(String text) {
        RiverHead x = new RiverHead();
        Due.feed(x, text);
        return x.text(0, 9);
    }

    // Terms 3: "TEXTS 0, 1, .. (at most 8) are read from THE TAPE (bytes, at most 100), in force from a YEAR to one (0 to 9)."
    private static void readFromTheTape() {
        Due.promise(26);
        RiverHead x = new RiverHead();
        for (int text = 0; text < 8; text++) {
            Edge.on(x, "<pass 1 " + (10 + text));
            Edge.due(x, "look(6)", 9);
            Edge.due(x, "text(" + text + ", " + text + ")", text);
            Edge.due(x, "look(6)", 0);
        }
        // one text a year, none in the last two
        for (int year = 0; year < 10; year++) {
            Edge.due(x, "look(7)", year < 8 ? 1 : 0);
            Edge.due(x, "price(1)", year < 8 ? 10 + year : 1);
            Edge.on(x, year < 9 ? "tick(360)" : "tick(359)");
        }
    }

    // Terms 3: "CLAUSE: source, a blank, longest, most or highest; or pass, a blank, a KING (one digit, 0 to 5), a blank, a NUMBER; or bar, a blank, a KING; and perhaps: a blank, in, a blank, a NUMBER, -, a NUMBER (MONTHS, 0 to 11, the second not below the first)."
    private static void clauseForms() {
        Due.promise(26);
        String[] forms = {"source longest", "source most", "source highest", "pass 4 0", "pass 0 07", "pass 5 120", "bar 0", "bar 5"};
        for (String form : forms) {
            Due.due(form, answer(form), 0);
            Due.due(form + " in months", answer(form + " in 2-10"), 0);
            Due.due(form + " twice", answer(form + ";" + form), 0);
            Due.due(form + " twice, of months", answer(form + " in 0-0;" + form + " in 11-11"), 0);
            Due.due(form + " and a blank", answer(form + " "), -1 - form.length() - 1);
            Due.due(form + " and another clause", answer(form + "bar 1"), -1 - form.length());
        }
        String[] wrong = {"source", "source 1", "pass 1", "bar", "pass 1 in 1-2", "bar 1 5", "source most 5", "bar 1 in 5", "bar 1 in 5-",
            "in 1-2", "bar 1 in 1-2 in 1-2"};
        int[] fault = {6, 7, 6, 3, 7, 6, 12, 10, 11, 0, 12};
        for (int i = 0; i < wrong.length; i++) {
            Due.due(wrong[i], answer(wrong[i]), -1 - fault[i]);
        }
    }

    // Terms 3: "a NUMBER, -, a NUMBER (MONTHS, 0 to 11, the second not below the first)."
    private static void clauseMonths() {
        Due.promise(26);
        for (int first = 0; first < 14; first++) {
            for (int second = 0; second < 14; second++) {
                String text = "bar 1 in " + first + "-" + second;
                int due = first > 11 ? -1 - text.indexOf('-') : second > 11 || second < first ? -1 - text.length() : 0;
                Due.due(text, answer(text), due);
            }
        }
    }

    /** With which bytes a text goes on that begins so: with each other one the fault is there, and with none of them. */
    private static void goesOn(String begun, String with) {
        for (int sign = 0; sign < 256; sign++) {
            int got = answer(begun + (char) sign);
            boolean faultThere = got == -1 - begun.length();
            Due.due("\"" + begun + "\" and byte " + sign, faultThere ? 1 : 0, with.indexOf(sign) < 0 ? 1 : 0);
        }
    }

    // Terms 3: "The FAULT is the place of the first byte with which no TEXT begins so"
    // Terms 3: "CLAUSE: source, a blank, longest, most or highest; or pass, a blank, a KING (one digit, 0 to 5), a blank, a NUMBER; or bar, a blank, a KING;"
    private static void clauseBytes() {
        Due.promise(26);
        String[] whole = {"source longest", "source most", "source highest", "pass 3 7", "bar 2"};
        for (String clause : whole) {
            for (int n = 0; n < clause.length(); n++) {
                String begun = clause.substring(0, n);
                boolean king = begun.equals("pass ") || begun.equals("bar ");
                String next = n == 0 ? "spb" : begun.equals("source ") ? "lmh" : king ? "012345" : begun.equals("pass 3 ") ? DIGITS
                    : clause.substring(n, n + 1);
                goesOn(begun, next);
                goesOn("bar 0;" + begun, next);
            }
            goesOn(clause, clause.equals("pass 3 7") ? DIGITS + " ;" : " ;");
        }
        goesOn("pass 3 77", DIGITS + " ;");
        goesOn("pass 3 777", " ;");
        goesOn("bar 1;bar 1;bar 1;bar 1;bar 1", " ");
    }

    // Terms 3: "The FAULT is the place of the first byte with which no TEXT begins so"
    // Terms 3: "and perhaps: a blank, in, a blank, a NUMBER, -, a NUMBER"
    private static void clauseOfMonthsBytes() {
        Due.promise(26);
        goesOn("bar 1 ", "i");
        goesOn("bar 1 i", "n");
        goesOn("bar 1 in", " ");
        goesOn("bar 1 in ", DIGITS);
        goesOn("bar 1 in 0", DIGITS + "-");
        goesOn("bar 1 in 01", DIGITS + "-");
        goesOn("bar 1 in 001", "-");
        goesOn("bar 1 in 1-", DIGITS);
        goesOn("bar 1 in 1-1", DIGITS + ";");
        goesOn("bar 1 in 1-01", DIGITS + ";");
        goesOn("bar 1 in 1-011", ";");
        // of months that are not as told: behind the digits, whatever is there
        goesOn("bar 1 in 120", "");
        goesOn("bar 1 in 1-000", "");
        goesOn("bar 1 in 1-012", "");
        // 1-0 may still become 1-01, 12 no month any more; both have their fault behind all digits
        goesOn("bar 1 in 1-0", DIGITS);
        goesOn("bar 1 in 12", DIGITS);
        Due.due("bar 1 in 1-01", answer("bar 1 in 1-01"), 0);
        Due.due("bar 1 in 121", answer("bar 1 in 121"), -13);
    }

    // Terms 3: "Of TEXTS in force, the greatest number first, the first CLAUSE that is about it and whose MONTHS (if it has such) have the open one counts: THE SOURCE CLAUSE, THE CLAUSE of a KING."
    private static void clauseThatCounts() {
        Due.promise(28);
        RiverHead x = Edge.after("<source most;pass 1 5;bar 2", "text(0, 9)", "<pass 1 6 in 1-2;source highest in 2-2", "text(0, 0)", "<bar 1",
            "text(1, 1)");
        int[] days = {0, 30, 60, 90, 360, 390, 420, 720};
        int[] source = {0, 0, 11, 0, 0, 0, 0, 0};
        int[] kingOne = {1, 10, 10, 1, 20, 20, 20, 1};
        int[] price = {5, 6, 6, 5, Due.STATE, Due.STATE, Due.STATE, 5};
        for (int i = 0; i < days.length; i++) {
            Edge.on(x, Edge.days(days[i] - x.look(5)));
            Edge.due(x, "look(5)", days[i]);
            Edge.due(x, "why(-1)", source[i]);
            Edge.due(x, "why(1)", kingOne[i]);
            Edge.due(x, "price(1)", price[i]);
            Edge.due(x, "why(2)", 2);
            Edge.due(x, "why(3)", Due.NONE);
        }
    }

    // Terms 3: "THE SOURCE of a CELL in a MONTH, of those ABOVE it: longest: the one from which most LINKS lead to it; most: the one with most WATER; highest: with most HEIGHT (of like ones the least CELL); without a SOURCE CLAUSE: longest."
    private static void sourceByClause() {
        Due.promise(10);
        String[] clauses = {"longest", "most", "highest", ""};
        // 8 runs into 9, 11 by 10 into 9, 9 into 17
        int[] ofTheMouth = {11, 9, 8, 11};
        int[] ofTheFork = {11, 9, 8, 11};
        int[] ofTheArm = {11, 10, 11, 11};
        for (int i = 0; i < 4; i++) {
            RiverHead x = Edge.after("high(17, 1)", "high(9, 100)", "high(8, 900)", "high(10, 200)", "high(11, 300)", "water(8, 10)",
                "water(9, 70)", "water(10, 20)", "water(17, 60)", "link(8, 9, 4095)", "link(9, 17, 4095)", "link(10, 9, 4095)",
                "link(11, 10, 4095)", "high(40, 4000)", "water(40, 99)");
            if (!clauses[i].isEmpty()) {
                Edge.on(x, "<source " + clauses[i], "text(0, 9)");
            }
            Edge.due(x, "source(17, 5)", ofTheMouth[i]);
            Edge.due(x, "source(9, 5)", ofTheFork[i]);
            Edge.due(x, "source(10, 5)", ofTheArm[i]);
            Edge.due(x, "source(8, 5)", 8);
        }
    }

    /** Six cells in the corner with kings of their own; king 5, who has all others, bars. */
    private static RiverHead corner() {
        RiverHead x = Edge.after("<bar 5;pass 1 10;pass 2 3;pass 3 0", "text(0, 9)");
        int[] kings = {0, 1, 0, 5, 5, 5, 5, 5, 2, 2, 3};
        for (int cell = 0; cell < 48; cell++) {
            x.king(cell, cell < kings.length ? kings[cell] : 5);
        }
        return x;
    }

    // Terms 3: "A WAY from a CELL to another one, by NEIGHBOURS: each step into a CELL of another KING than that of the CELL before costs his PRICE, each other step 0; into none whose CLAUSE says bar (but for the first CELL)."
    private static void waysByNeighbours() {
        Due.promise(31);
        RiverHead x = corner();
        Edge.due(x, "pass(0, 0)", Due.cells(0));
        Edge.due(x, "pass(0, 2)", Due.cells(0));
        Edge.due(x, "pass(0, 3)", Due.cells(0, 8, 9, 10));
        Edge.due(x, "pass(0, 4)", Due.cells(0, 2, 8, 9, 10));
        Edge.due(x, "pass(0, 9)", Due.cells(0, 2, 8, 9, 10));
        Edge.due(x, "pass(0, 10)", Due.cells(0, 1, 2, 8, 9, 10));
        Edge.due(x, "pass(0, 9999)", Due.cells(0, 1, 2, 8, 9, 10));
        // out of a land that is barred, not within it; cells askew are no neighbours
        Edge.due(x, "pass(3, 0)", Due.cells(3));
        Edge.due(x, "pass(3, 1)", Due.cells(2, 3, 10));
        Edge.due(x, "pass(19, 9999)", Due.cells(19));
        Edge.due(x, "pass(18, 0)", Due.cells(10, 18));
    }

    // Promise 28: "THE SOURCE CLAUSE (king -1), or THE CLAUSE of a KING: 10 times the TEXT, and the CLAUSE (from 0)."
    private static void whyOfSourceAndKings() {
        Due.promise(28);
        RiverHead x = Edge.after("<bar 4;pass 0 3;source most;bar 0;pass 5 1", "text(0, 9)", "<pass 2 9;pass 3 9;source longest", "text(0, 9)");
        int[] due = {12, 1, Due.NONE, 10, 11, 0, 4};
        for (int king = -1; king < 6; king++) {
            Edge.due(x, "why(" + king + ")", due[king + 1]);
        }
    }

    // Promise 29: "PRICE of a KING."
    private static void priceOfAKing() {
        Due.promise(29);
        RiverHead x = Edge.after("<bar 4;pass 0 3;source most;bar 0;pass 5 12", "text(0, 9)", "<pass 2 345;pass 3 0;source longest", "text(0, 9)");
        int[] due = {3, 1, 345, 0, Due.STATE, 12};
        for (int king = 0; king < 6; king++) {
            Edge.due(x, "price(" + king + ")", due[king]);
        }
    }

    // Promise 30: "The least that a WAY from a CELL to another one costs."
    private static void leastCost() {
        Due.promise(30);
        RiverHead x = corner();
        // by 1 it costs 10 and 1, by 8, 9 and 10 it costs 3, 0, 0 and 1
        Edge.due(x, "path(0, 2)", 4);
        Edge.due(x, "path(2, 0)", 4);
        Edge.due(x, "path(0, 1)", 10);
        Edge.due(x, "path(1, 0)", 1);
        Edge.due(x, "path(1, 2)", 1);
        Edge.due(x, "path(0, 10)", 3);
        Edge.due(x, "path(10, 8)", 3);
        Edge.due(x, "path(8, 10)", 0);
        Edge.due(x, "path(3, 2)", 1);
        Edge.due(x, "path(3, 1)", 11);
        Edge.due(x, "path(0, 3)", Due.NONE);
        Edge.due(x, "path(3, 4)", Due.NONE);
        Edge.due(x, "path(0, 18)", Due.NONE);
    }
}
