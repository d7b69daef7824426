/** The boundary cases of promises 51 to 55 and of the findings, sentence by sentence. */
public final class ImagesEdgesTest {
    public static void main(String[] args) {
        imageOfNothing();
        imageOfAll();
        imageNotOfTheTape();
        imageNotOfSheets();
        undoNone();
        undoLatest();
        undoStays();
        undoOnTheLastDay();
        undoMakesRoom();
        undoOfRowsAndWords();
        undoOfParties();
        undoOfBooks();
        tear();
        lookBeyond();
        lookEnds();
        statusBeyond();
        statusOfEach();
        statusNotThisOne();
        statusBehindUndo();
        refusedInARow();
        rowsOfADay();
        Due.end();
    }

    // Promise 51: "All that sections 1 to 5 tell (THE TAPE not) is kept: 1."
    // Promise 52: "It becomes what was kept latest (which stays): the open DAY."
    private static void imageOfNothing() {
        Due.promise(51);
        // an image of a new object: all is as at first
        RiverHead x = new RiverHead();
        Edge.due(x, "image()", 1);
        Edge.on(x, "high(0, 4000)", "water(47, 99)", "king(1, 5)", "link(0, 1, 1)", "goods(4, 999)", "set(4, 3)", "go(4, 47)",
            "stop(4, 0)", "row(4, 4, 903, 720)", "strike(0, true)", "mean(3, 9, 1)", "<bar 1", "text(0, 9)", "claim(0, 1)", "tick(120)");
        Edge.due(x, "undo()", 0);
        for (int what = 0; what < 8; what++) {
            Edge.due(x, "look(" + what + ")", 0);
        }
        int[] due = {0, 0, 0, -1, 0, 3599};
        for (int what = 0; what < 6; what++) {
            Edge.due(x, "party(4, " + what + ")", due[what]);
        }
        String[] gone = {"high(0, 0)", "water(47, 0)", "king(1, 0)", "mouth(0, 0)", "mean(3, 9, 0)", "row(4, 4, 903, 0)", "of(0, 6)"};
        for (String call : gone) {
            Edge.due(x, call, 0);
        }
        Edge.due(x, "fits(0)", Due.ALL);
        Edge.due(x, "price(1)", 1);
        Edge.due(x, "book(0, 0)", Due.NONE);
        Edge.due(x, "call(0)", Due.BEYOND);
    }

    /** All rows of all kinds full, on the last day; no call answers a finding. */
    private static RiverHead full() {
        RiverHead x = Edge.after(Edge.days(3599));
        x.high(0, 4000);
        for (int i = 0; i < 40; i++) {
            x.link(0, 1, i == 39 ? 2048 : 1);
            x.row(i % 5, 0, 9999, 0);
        }
        for (int i = 0; i < 20; i++) {
            x.claim(39, 47 - i);
        }
        for (int text = 0; text < 8; text++) {
            Edge.on(x, "<pass 5 " + text, "text(9, 9)");
        }
        return x;
    }

    // Promise 51: "All that sections 1 to 5 tell (THE TAPE not) is kept: 1."
    private static void imageOfAll() {
        Due.promise(51);
        RiverHead x = full();
        Edge.due(x, "status(-1)", 0);
        for (int row = 0; row < 40; row++) {
            x.strike(row, true);
        }
        Edge.due(x, "image()", 1);
        for (int row = 0; row < 40; row++) {
            x.strike(row, false);
        }
        x.high(0, 3999);
        Edge.due(x, "undo()", 3599);
        int[] due = {40, 40, 40, 8, 20, 3599, 0, 8};
        for (int what = 0; what < 8; what++) {
            Edge.due(x, "look(" + what + ")", due[what]);
        }
        Edge.due(x, "high(0, 4000)", 4000);
        Edge.due(x, "mouth(0, 11)", 1);
        Edge.due(x, "why(5)", 70);
        Edge.due(x, "price(5)", 7);
        Edge.due(x, "of(39, 1)", 99);
        Edge.due(x, "of(39, 3)", 4);
        Edge.due(x, "call(19)", 1);
        // as full as it was
        Edge.due(x, "row(0, 0, 0, 0)", Due.FULL);
        Edge.due(x, "link(0, 1, 1)", Due.FULL);
        Edge.due(x, "claim(0, 0)", Due.FULL);
        Edge.due(x, "tick(1)", Due.FULL);
        Edge.due(x, "text(0, 9)", Due.FULL);
    }

    // Promise 51: "(THE TAPE not)"
    private static void imageNotOfTheTape() {
        Due.promise(51);
        RiverHead x = Edge.after("<ba", "image()", "<r 4");
        Edge.due(x, "undo()", 0);
        Edge.due(x, "look(6)", 5);
        Edge.due(x, "text(0, 9)", 0);
        // a text that is undone does not come back to the tape
        Edge.due(x, "undo()", 0);
        Edge.due(x, "look(6)", 0);
        Edge.due(x, "look(3)", 0);
        Edge.on(x, "<x", "wipe()", "undo()");
        Edge.due(x, "look(6)", 0);
    }

    // Promise 51: "All that sections 1 to 5 tell"
    // Terms 6: "SHEETS 0 to 3"
    private static void imageNotOfSheets() {
        Due.promise(51);
        RiverHead x = Edge.after("sheet(0, 8, 2)", "write(0, 1, 5)", "sheet(1, 8, 1)", "image()", "write(0, 1, 6)", "sheet(1, 0, 0)",
            "sheet(3, 64, 40)", "undo()");
        Edge.due(x, "write(0, 1, 0)", 6);
        Edge.due(x, "write(1, 0, 0)", Due.MISSING);
        Edge.due(x, "write(3, 39, 0)", 0);
    }

    // Promise 52: "NONE: nothing is kept."
    private static void undoNone() {
        Due.promise(52);
        Edge.due(new RiverHead(), "undo()", Due.NONE);
        Edge.refused(Due.NONE, "undo()", "tear()");
        Edge.refused(Due.NONE, "undo()", "undo()", "tear()");
        Edge.taken(92, "undo()", "tear()", "image()");
    }

    // Promise 52: "It becomes what was kept latest (which stays): the open DAY."
    private static void undoLatest() {
        Due.promise(52);
        RiverHead x = Edge.after("image()", "tick(1)", "image()", "tick(1)", "image()", "tick(1)");
        Edge.due(x, "undo()", 2);
        Edge.due(x, "undo()", 2);
        // the one before is not kept any more
        Edge.due(x, "tear()", 1);
        Edge.due(x, "undo()", Due.NONE);
        Edge.due(x, "look(5)", 2);
        Edge.taken(60, "undo()");
        Edge.taken(92, "undo()", "image()", "tick(1)");
    }

    // Promise 52: "(which stays)"
    private static void undoStays() {
        Due.promise(52);
        RiverHead x = Edge.after("row(0, 0, 0, 0)", "image()");
        for (int i = 0; i < 3; i++) {
            Edge.on(x, "strike(0, true)", "water(0, 9)", "mean(0, 0, 1)", "goods(0, 5)", "go(0, 9)", "claim(0, 0)", "tick(30)");
            Edge.due(x, "undo()", 0);
            Edge.due(x, "of(0, 6)", 0);
            Edge.due(x, "water(0, 0)", 0);
            Edge.due(x, "mean(0, 0, 0)", 0);
            Edge.due(x, "party(0, 1)", 0);
            Edge.due(x, "party(0, 3)", -1);
            Edge.due(x, "look(4)", 0);
        }
    }

    // Promise 52: "the open DAY."
    private static void undoOnTheLastDay() {
        Due.promise(52);
        RiverHead x = Edge.after(Edge.both(Edge.days(3599), "image()"));
        Edge.due(x, "undo()", 3599);
        Edge.due(x, "tick(1)", Due.FULL);
        RiverHead y = Edge.after(Edge.both(new String[] {"image()"}, Edge.days(3599)));
        Edge.due(y, "tick(1)", Due.FULL);
        Edge.due(y, "undo()", 0);
        Edge.due(y, "tick(360)", 360);
    }

    // Promise 52: "It becomes what was kept latest"
    private static void undoMakesRoom() {
        Due.promise(52);
        RiverHead x = Edge.after("high(0, 1)", "link(0, 1, 1)", "row(0, 3, 0, 0)", "claim(0, 47)", "<bar 1", "text(0, 9)", "image()");
        Edge.on(x, Edge.times(39, "link(0, 8, 4095)"));
        Edge.on(x, Edge.times(39, "row(0, 1, 9, 0)"));
        Edge.on(x, Edge.times(19, "claim(0, 0)"));
        for (int text = 1; text < 8; text++) {
            Edge.on(x, "<bar 2", "text(0, 9)");
        }
        Edge.due(x, "link(0, 1, 1)", Due.FULL);
        Edge.due(x, "row(0, 0, 0, 0)", Due.FULL);
        Edge.due(x, "claim(0, 0)", Due.FULL);
        Edge.due(x, "text(0, 9)", Due.FULL);
        Edge.due(x, "undo()", 0);
        Edge.due(x, "mouth(0, 1)", 0);
        Edge.due(x, "where(0, 0)", 0xFF);
        Edge.due(x, "why(2)", Due.NONE);
        // numbers go on from where they were
        Edge.due(x, "link(0, 8, 2)", 1);
        Edge.due(x, "row(1, 0, 0, 0)", 1);
        Edge.due(x, "claim(1, 0)", 1);
        Edge.on(x, "<pass 2 5");
        Edge.due(x, "text(0, 9)", 1);
        Edge.due(x, "of(1, 6)", 0);
        Edge.due(x, "fall(0)", 0b01);
        Edge.due(x, "price(2)", 5);
    }

    // Promise 52: "It becomes what was kept latest"
    private static void undoOfRowsAndWords() {
        Due.promise(52);
        // a struck row that is undone leaves nothing to the row that gets its number
        RiverHead x = Edge.after("image()", "row(0, 3, 0, 0)", "strike(0, true)", "undo()");
        Edge.due(x, "strike(0, true)", Due.BEYOND);
        Edge.due(x, "row(1, 3, 500, 0)", 0);
        Edge.due(x, "of(0, 6)", 0);
        Edge.due(x, "look(2)", 0);
        Edge.due(x, "where(0, 0)", 0xFFL << 40);
        // the watch, too
        RiverHead y = Edge.after("row(0, 3, 0, 0)", "image()", "stop(0, 0)");
        Edge.due(y, "fits(0)", Due.ALL);
        y.undo();
        Edge.due(y, "fits(0)", 0xFF);
        Edge.due(y, "stop(0, 3599)", 3599);
    }

    // Promise 52: "It becomes what was kept latest"
    private static void undoOfParties() {
        Due.promise(52);
        // one that was going and is there now, one that was not and is going now
        RiverHead x = Edge.after("goods(0, 9)", "go(0, 1)", "goods(4, 9)", "water(0, 50)", "tick(90)", "set(3, 5)", "goods(3, 2)",
            "go(3, 6)", "goods(4, 9)", "image()");
        Edge.on(x, "go(4, 47)", "tick(1)");
        Edge.due(x, "party(3, 3)", -1);
        Edge.due(x, "party(4, 3)", 47);
        Edge.due(x, "party(1, 2)", 1);
        Edge.due(x, "undo()", 90);
        Edge.due(x, "party(0, 0)", 1);
        Edge.due(x, "party(1, 2)", 0);
        Edge.due(x, "party(3, 0)", 5);
        Edge.due(x, "party(3, 1)", 2);
        Edge.due(x, "party(3, 3)", 6);
        Edge.due(x, "party(4, 0)", 0);
        Edge.due(x, "party(4, 1)", 9);
        Edge.due(x, "party(4, 3)", -1);
    }

    // Promise 52: "It becomes what was kept latest"
    // Terms 5: "THE BOOK of it (of 120)"
    private static void undoOfBooks() {
        Due.promise(52);
        RiverHead x = Edge.after("goods(0, 999)", "tick(30)", "image()", "goods(0, 500)", "tick(30)");
        Edge.due(x, "book(1, 3)", 470);
        x.undo();
        Edge.due(x, "book(0, 3)", 969);
        Edge.due(x, "book(1, 3)", Due.NONE);
        x.tick(30);
        Edge.due(x, "book(1, 3)", 939);
        // kept on the last day of a month: its book is not closed then
        RiverHead y = Edge.after("goods(0, 60)", "tick(59)", "image()", "tick(1)");
        Edge.due(y, "book(1, 3)", 0);
        y.undo();
        Edge.due(y, "book(0, 3)", 30);
        Edge.due(y, "book(1, 3)", Due.NONE);
    }

    // Promise 53: "Nothing is kept: 1 if something was, else 0."
    private static void tear() {
        Due.promise(53);
        RiverHead x = new RiverHead();
        Edge.due(x, "tear()", 0);
        x.image();
        x.image();
        Edge.due(x, "tear()", 1);
        Edge.due(x, "tear()", 0);
        Edge.due(x, "undo()", Due.NONE);
        Edge.due(x, "tear()", 0);
        x.image();
        x.undo();
        Edge.due(x, "tear()", 1);
        // what is torn changes nothing else
        RiverHead y = Edge.rich("tear()");
        Edge.due(y, "look(5)", 92);
        Edge.due(y, "look(1)", Edge.RICH_ROWS);
        Edge.due(y, "status(-1)", 0);
    }

    // Promise 54: "BEYOND: another what."
    private static void lookBeyond() {
        Due.promise(54);
        Edge.beyondEnds("look(#)", 0, 7);
    }

    // Promise 54: "0 LINKS, 1 ROWS, 2 those that are STRUCK, 3 TEXTS, 4 CLAIMS, 5 the open DAY, 6 bytes of THE TAPE, 7 TEXTS in force."
    private static void lookEnds() {
        Due.promise(54);
        RiverHead none = new RiverHead();
        RiverHead x = full();
        for (int row = 0; row < 40; row++) {
            x.strike(row, true);
        }
        Edge.on(x, "<" + "x".repeat(100));
        int[] due = {40, 40, 40, 8, 20, 3599, 100, 8};
        for (int what = 0; what < 8; what++) {
            Edge.due(none, "look(" + what + ")", 0);
            Edge.due(x, "look(" + what + ")", due[what]);
        }
        // rows that are not known are rows; struck ones that are not known are struck
        RiverHead y = Edge.after("row(0, 0, 0, 720)", "strike(0, true)", "<bar 1", "text(1, 1)");
        Edge.due(y, "look(1)", 1);
        Edge.due(y, "look(2)", 1);
        Edge.due(y, "look(3)", 1);
        Edge.due(y, "look(7)", 0);
        y.tick(360);
        Edge.due(y, "look(7)", 1);
        y.tick(360);
        Edge.due(y, "look(7)", 0);
    }

    // Promise 55: "BEYOND (counted, too): another one."
    private static void statusBeyond() {
        Due.promise(55);
        Edge.beyondEnds("status(#)", -1, 6);
        RiverHead x = new RiverHead();
        Edge.due(x, "status(7)", Due.BEYOND);
        Edge.due(x, "status(-2)", Due.BEYOND);
        Edge.due(x, "status(-1)", 2);
        Edge.due(x, "status(0)", 2);
        for (int which = 1; which < 7; which++) {
            Edge.due(x, "status(" + which + ")", 0);
        }
    }

    // Promise 55: "which -1: all, 0 to 6: BEYOND to SIZE."
    // Terms 0: "-1000000001 BEYOND, -1000000002 FULL, -1000000003 KIND, -1000000004 NONE, -1000000005 STATE, -1000000006 MISSING, -1000000007 SIZE."
    private static void statusOfEach() {
        Due.promise(55);
        String[] acts = {"tick(0)", "feed(0, 4)", "link(0, 0, 1)", "undo()", "go(0, 1)", "judge(0, 0)", "sheet(0, 8, -1)"};
        for (int which = 0; which < 7; which++) {
            RiverHead x = Edge.after("<" + "x".repeat(97));
            for (int again = 1; again < 4; again++) {
                Edge.due(x, acts[which], -1000000001 - which);
                for (int asked = 0; asked < 7; asked++) {
                    Edge.due(x, "status(" + asked + ")", asked == which ? again : 0);
                }
                Edge.due(x, "status(-1)", again);
            }
        }
    }

    // Promise 55: "How many acts answered a finding ever (this one not; undo() takes none back)"
    private static void statusNotThisOne() {
        Due.promise(55);
        RiverHead x = new RiverHead();
        Edge.due(x, "status(-1)", 0);
        Edge.due(x, "status(-1)", 0);
        // answers below 0 that are no findings, and those of acts that answer a long
        Edge.due(x, "text(0, 9)", -1);
        Edge.due(x, "party(0, 3)", -1);
        Edge.due(x, "copied(0)", -1);
        Edge.due(x, "status(-1)", 0);
        String[] longs = {"above(48, 0)", "fits(0)", "where(0, 0)", "pass(0, -1)", "map(9)", "write(4, 0, 0)"};
        for (int i = 0; i < longs.length; i++) {
            Edge.due(x, longs[i], Due.BEYOND);
            Edge.due(x, "status(0)", i + 1);
        }
        // as many as calls can be
        RiverHead y = Edge.after(Edge.times(511, "look(8)"));
        Edge.due(y, "status(-1)", 511);
    }

    // Promise 55: "undo() takes none back"
    private static void statusBehindUndo() {
        Due.promise(55);
        RiverHead x = Edge.after("undo()", "image()", "tick(0)", "look(9)", "undo()");
        Edge.due(x, "status(-1)", 3);
        Edge.due(x, "status(0)", 2);
        Edge.due(x, "status(3)", 1);
        Edge.on(x, "tear()", "undo()");
        Edge.due(x, "status(-1)", 4);
        Edge.due(x, "status(3)", 2);
    }

    // Terms 0: "one that answers a finding changes nothing but status()."
    private static void refusedInARow() {
        Due.promise(55);
        String[] acts = {
            "high(48, 0)", "high(9, 1)", "water(0, 100)", "king(0, 6)", "link(0, 9, 1)", "link(0, 1, 1)", "mouth(0, 12)", "run(0, 12)",
            "above(0, 12)", "joined(0, 48)", "source(0, 12)", "goods(0, 1000)", "set(0, 48)", "go(0, 48)", "go(4, 0)", "party(0, 6)",
            "stop(2, 100)", "row(0, 6, 0, 0)", "as(0, 2)", "of(0, 7)", "strike(9, true)", "mean(0, 0, 4)", "fits(9)", "where(0, 3600)",
            "count(0, 3600)", "same(0, 4)", "feed(0, 5)", "text(1, 0)", "why(1)", "price(3)", "path(0, 8)", "pass(0, -1)", "map(9)",
            "slips(3, 3)", "copied(9)", "shore(0)", "claim(0, 48)", "call(3)", "fall(9)", "plan(17)", "judge(0, 3)", "judge(0, 0)",
            "beside(9)", "tick(361)", "book(3, 0)", "check(0, 3)", "check(0, 1)", "known(3600)", "sheet(0, 8, -1)", "sheet(0, 8, 41)",
            "write(3, 0, 1)", "copy(0, 0, 1, 0, 1)", "look(8)", "status(7)"};
        Edge.refused(Due.BEYOND, "tick(0)", acts);
        RiverHead x = Edge.rich();
        for (int i = 0; i < acts.length; i++) {
            long answer = Edge.ask(x, acts[i]);
            Due.due(acts[i] + " is refused", answer < -1000000000 && answer >= Due.SIZE ? 1 : 0, 1);
            Edge.due(x, "status(-1)", i + 1);
        }
        RiverHead twin = Edge.rich();
        for (int what = 0; what < 8; what++) {
            Due.due("look(" + what + ") behind all refused acts", x.look(what), twin.look(what));
        }
        for (int row = 0; row < Edge.RICH_ROWS; row++) {
            Due.due("where(" + row + ", 92) behind all refused acts", x.where(row, 92), twin.where(row, 92));
        }
    }

    // Terms 2: "of a DAY not before that of the ROW before it in that book"
    private static void rowsOfADay() {
        Due.promise(16);
        RiverHead x = Edge.after("row(0, 0, 0, 0)", "image()", "tick(5)", "row(0, 0, 0, 0)");
        Edge.due(x, "of(1, 4)", 5);
        // a day that was before comes again without the rows behind it
        Edge.due(x, "undo()", 0);
        Edge.due(x, "of(1, 4)", Due.BEYOND);
        Edge.due(x, "row(0, 0, 0, 0)", 1);
        Edge.due(x, "of(0, 4)", 0);
        Edge.due(x, "of(1, 4)", 0);
    }
}
