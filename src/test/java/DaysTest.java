/** Promises 44 to 55: days, the book, sheets, images. */
public final class DaysTest {
    public static void main(String[] args) {
        tick();
        going();
        fever();
        book();
        check();
        known();
        sheet();
        write();
        copy();
        images();
        imageKeepsAll();
        look();
        status();
        Due.end();
    }

    private static void tick() {
        Due.promise(44);
        RiverHead x = new RiverHead();
        Due.due("tick(0)", x.tick(0), Due.BEYOND);
        Due.due("tick(361)", x.tick(361), Due.BEYOND);
        Due.due("tick(-1)", x.tick(-1), Due.BEYOND);
        for (int year = 1; year < 10; year++) {
            Due.due("a year", x.tick(360), 360 * year);
        }
        Due.due("too many", x.tick(360), Due.FULL);
        Due.due("beyond ahead of full", x.tick(361), Due.BEYOND);
        Due.due("up to the last", x.tick(359), 3599);
        Due.due("no more", x.tick(1), Due.FULL);
        Due.due("the open day", x.look(5), 3599);
    }

    private static void going() {
        Due.promise(44);
        RiverHead x = new RiverHead();
        x.set(0, 27);
        x.goods(0, 3);
        x.go(0, 9);                 // two west, two north
        x.set(1, 27);
        x.goods(1, 999);
        x.go(1, 45);                // two east, two south
        x.goods(2, 5);              // goes nowhere
        int[] north = {19, 11, 10, 10};
        int[] east = {28, 29, 37, 45};
        for (int i = 0; i < 4; i++) {
            x.tick(1);
            Due.due("north first, then west", x.party(0, 0), north[i]);
            Due.due("east first, then south", x.party(1, 0), east[i]);
        }
        Due.due("no goods", x.party(0, 1), 0);
        Due.due("going still", x.party(0, 3), 9);
        Due.due("there", x.party(1, 3), -1);
        Due.due("goods", x.party(1, 1), 995);
        Due.due("goods of one that rests", x.party(2, 1), 1);
        x.goods(0, 1);
        x.tick(1);
        Due.due("on with goods", x.party(0, 0), 9);
        Due.due("there", x.party(0, 3), -1);
        x.tick(10);
        Due.due("goods not below 0", x.party(2, 1), 0);
    }

    private static void fever() {
        Due.promise(44);
        RiverHead x = new RiverHead();
        x.water(10, 50);
        x.water(11, 49);
        x.water(12, 99);
        x.set(0, 10);
        x.set(1, 11);
        x.set(2, 12);
        x.set(3, 9);
        x.goods(3, 200);
        x.tick(90);
        Due.due("no fever ahead of month 3", x.party(0, 2), 0);
        x.go(3, 10);
        x.stop(2, 95);
        x.tick(1);
        Due.due("fever", x.party(0, 2), 1);
        Due.due("too little water", x.party(1, 2), 0);
        Due.due("behind its step", x.party(3, 2), 1);
        x.tick(18);
        Due.due("at 19", x.party(0, 2), 19);
        Due.due("right still", x.party(0, 5), 3599);
        x.tick(1);
        Due.due("at 20 none", x.party(0, 2), 0);
        Due.due("stopped on day 109", x.party(0, 5), 108);
        Due.due("stopped before", x.party(2, 5), 94);
        Due.promise(15);
        Due.due("stopped by fever on that day already", x.stop(0, 109), Due.STATE);
        Due.due("stopped on the day before it", x.stop(3, 108), 108);
        Due.promise(44);
        x.tick(70);
        Due.due("month 5 to its end", x.party(0, 2), 10);
        Due.due("stopped once", x.party(0, 5), 108);
        x.tick(30);
        Due.due("no more in month 6", x.party(0, 2), 10);
        x.tick(360 - 210 + 90);
        Due.due("nor till month 3 of the next year", x.party(0, 2), 10);
        x.tick(1);
        Due.due("then again", x.party(0, 2), 11);
    }

    private static void book() {
        Due.promise(45);
        RiverHead x = new RiverHead();
        Due.due("not closed", x.book(0, 0), Due.NONE);
        Due.due("book(120, 0)", x.book(120, 0), Due.BEYOND);
        Due.due("book(-1, 0)", x.book(-1, 0), Due.BEYOND);
        Due.due("book(0, 6)", x.book(0, 6), Due.BEYOND);
        Due.due("book(0, -1)", x.book(0, -1), Due.BEYOND);
        x.row(0, 0, 0, 0);
        x.row(0, 0, 0, 29);
        x.row(0, 0, 0, 30);
        x.row(1, 0, 0, 30);
        x.strike(1, true);
        x.strike(2, true);
        x.claim(0, 0);
        x.claim(0, 1);
        x.goods(0, 100);
        x.goods(1, 50);
        x.go(1, 47);
        x.goods(2, 999);
        x.set(2, 47);
        x.go(2, 46);
        x.tick(29);
        Due.due("not closed on its last day", x.book(0, 0), Due.NONE);
        x.goods(3, 2);
        x.go(3, 47);
        x.tick(1);
        int[] first = {2, 1, 2, 70 + 20 + 969 + 1, 0, 1};
        for (int what = 0; what < 6; what++) {
            Due.due("book(0, " + what + ")", x.book(0, what), first[what]);
        }
        Due.due("not closed", x.book(1, 0), Due.NONE);
        x.strike(1, false);
        x.water(47, 60);
        x.tick(90);
        int[] fourth = {4, 1, 2, 879, 10, 1};
        for (int what = 0; what < 6; what++) {
            Due.due("book(3, " + what + ")", x.book(3, what), fourth[what]);
        }
        Due.due("the book of then stays", x.book(0, 1), 1);
        for (int i = 0; i < 9; i++) {
            x.tick(360);
        }
        x.tick(239);
        Due.due("the last closed", x.book(118, 0), 4);
        Due.due("the last one is never closed", x.book(119, 0), Due.NONE);
    }

    private static void check() {
        Due.promise(46);
        RiverHead x = new RiverHead();
        Due.due("not closed", x.check(0, 0), Due.NONE);
        x.row(0, 0, 0, 0);
        x.row(0, 0, 0, 0);
        x.strike(0, true);
        x.claim(0, 0);
        x.goods(0, 230);
        x.tick(30);
        Due.due("missing", x.check(0, 0), Due.MISSING);
        Due.due("none ahead of missing", x.check(1, 0), Due.NONE);
        Due.due("the last month", x.check(119, 0), Due.NONE);
        Due.due("check(120, 0)", x.check(120, 0), Due.BEYOND);
        Due.due("check(-1, 0)", x.check(-1, 0), Due.BEYOND);
        Due.due("check(0, 4)", x.check(0, 4), Due.BEYOND);
        Due.due("check(0, -1)", x.check(0, -1), Due.BEYOND);
        Due.due("beyond ahead of none", x.check(1, 4), Due.BEYOND);
        x.sheet(0, 64, 5);
        Due.due("five", x.check(0, 0), Due.SIZE);
        x.sheet(0, 64, 7);
        Due.due("seven", x.check(0, 0), Due.SIZE);
        x.sheet(0, 64, 6);
        int[] due = {2, 1, 1, 200, 0, 0};
        for (int i = 0; i < 6; i++) {
            Due.due("the first that is not so", x.check(0, 0), i < 4 ? i : 6);
            x.write(0, i, due[i]);
        }
        Due.due("all are", x.check(0, 0), 6);
        x.write(0, 5, 1);
        Due.due("the last is not", x.check(0, 0), 5);
        x.write(0, 4, 1L << 32);
        Due.due("a great number", x.check(0, 0), 4);
    }

    private static void known() {
        Due.promise(47);
        RiverHead x = new RiverHead();
        x.tick(10);
        x.row(0, 0, 0, 0);
        x.row(1, 0, 0, 5);
        x.row(2, 0, 0, 720);
        x.strike(0, true);
        Due.due("known(9)", x.known(9), 0);
        Due.due("known(10)", x.known(10), 1);
        Due.due("known(14)", x.known(14), 1);
        Due.due("known(15)", x.known(15), 2);
        Due.due("known(729)", x.known(729), 2);
        Due.due("known(730)", x.known(730), 3);
        Due.due("known(3599)", x.known(3599), 3);
        Due.due("known(3600)", x.known(3600), Due.BEYOND);
        Due.due("known(-1)", x.known(-1), Due.BEYOND);
    }

    private static void sheet() {
        Due.promise(48);
        RiverHead x = new RiverHead();
        Due.due("sheet(0, 8, 40)", x.sheet(0, 8, 40), 40);
        Due.due("sheet(3, 64, 0)", x.sheet(3, 64, 0), 0);
        Due.due("empty, not missing", x.write(3, 0, 0), Due.BEYOND);
        Due.due("missing again", x.sheet(0, 0, 7), 0);
        Due.due("missing", x.write(0, 0, 0), Due.MISSING);
        Due.due("sheet(4, 8, 1)", x.sheet(4, 8, 1), Due.BEYOND);
        Due.due("sheet(-1, 8, 1)", x.sheet(-1, 8, 1), Due.BEYOND);
        Due.due("32 bits", x.sheet(0, 32, 1), Due.BEYOND);
        Due.due("bits -8", x.sheet(0, -8, 1), Due.BEYOND);
        Due.due("beyond ahead of size", x.sheet(0, 7, -1), Due.BEYOND);
        Due.due("n -1", x.sheet(0, 8, -1), Due.SIZE);
        Due.due("n 41", x.sheet(0, 8, 41), Due.BEYOND);
        x.sheet(1, 16, 2);
        x.write(1, 0, 76);
        x.write(1, 1, 77);
        Due.due("made anew", x.sheet(1, 16, 2), 2);
        Due.due("all 0", x.write(1, 0, 0), 0);
        Due.due("all 0", x.write(1, 1, 0), 0);
        Due.due("sizes counted", x.status(6), 1);
    }

    private static void write() {
        Due.promise(49);
        RiverHead x = new RiverHead();
        x.sheet(0, 8, 3);
        x.sheet(1, 16, 3);
        x.sheet(2, 64, 3);
        long[] given = {127, 128, 255, 256, 32767, 32768, 65535, -1, Long.MAX_VALUE, Long.MIN_VALUE, -1000000001L};
        for (long v : given) {
            x.write(0, 2, v);
            Due.due("8 bits of " + v, x.write(0, 2, 0), (byte) v);
            x.write(1, 2, v);
            Due.due("16 bits of " + v, x.write(1, 2, 0), (short) v);
            x.write(2, 2, v);
            Due.due("64 bits of " + v, x.write(2, 2, 0), v);
        }
        Due.due("none was a finding", x.status(-1), 0);
        Due.due("write(4, 0, 0)", x.write(4, 0, 0), Due.BEYOND);
        Due.due("write(-1, 0, 0)", x.write(-1, 0, 0), Due.BEYOND);
        Due.due("write(0, 3, 0)", x.write(0, 3, 0), Due.BEYOND);
        Due.due("write(0, -1, 0)", x.write(0, -1, 0), Due.BEYOND);
        Due.due("missing ahead of beyond", x.write(3, 99, 0), Due.MISSING);
    }

    private static void copy() {
        Due.promise(50);
        RiverHead x = new RiverHead();
        x.sheet(0, 16, 5);
        x.sheet(1, 16, 3);
        x.sheet(2, 8, 5);
        for (int i = 0; i < 5; i++) {
            x.write(0, i, i + 1);
        }
        Due.due("copy(0, 0, 0, 1, 4)", x.copy(0, 0, 0, 1, 4), 4);
        int[] due = {1, 1, 2, 3, 4};
        for (int i = 0; i < 5; i++) {
            Due.due("as they all were", x.write(0, i, due[i]), due[i]);
        }
        Due.due("copy(0, 3, 1, 1, 2)", x.copy(0, 3, 1, 1, 2), 2);
        Due.due("not there", x.write(1, 0, 0), 0);
        Due.due("there", x.write(1, 1, 3), 3);
        Due.due("there", x.write(1, 2, 4), 4);
        Due.due("nothing at the end", x.copy(0, 5, 1, 3, 0), 0);
        Due.due("all of a sheet", x.copy(1, 0, 1, 0, 3), 3);
        Due.due("copy(4, ..)", x.copy(4, 0, 0, 0, 0), Due.BEYOND);
        Due.due("copy(.., 4, ..)", x.copy(0, 0, 4, 0, 0), Due.BEYOND);
        Due.due("copy(-1, ..)", x.copy(-1, 0, 0, 0, 0), Due.BEYOND);
        Due.due("from a missing one", x.copy(3, 0, 0, 0, 0), Due.MISSING);
        Due.due("to a missing one", x.copy(0, 0, 3, 0, 99), Due.MISSING);
        Due.due("beyond ahead of missing", x.copy(3, 0, 4, 0, 0), Due.BEYOND);
        Due.due("other bits", x.copy(0, 0, 2, 0, 99), Due.KIND);
        Due.due("too many to give", x.copy(0, 3, 0, 0, 3), Due.BEYOND);
        Due.due("too many to take", x.copy(0, 0, 1, 2, 2), Due.BEYOND);
        Due.due("from below 0", x.copy(0, -1, 1, 0, 1), Due.BEYOND);
        Due.due("to below 0", x.copy(0, 0, 1, -1, 1), Due.BEYOND);
        Due.due("n below 0", x.copy(0, 0, 1, 0, -1), Due.BEYOND);
        Due.due("nothing behind the end", x.copy(0, 6, 1, 0, 0), Due.BEYOND);
        Due.due("very much", x.copy(0, 1, 0, 1, Integer.MAX_VALUE), Due.BEYOND);
        Due.due("very far", x.copy(0, Integer.MAX_VALUE, 0, 0, 2), Due.BEYOND);
        Due.due("nothing was changed", x.write(0, 0, 1), 1);
    }

    private static void images() {
        RiverHead x = new RiverHead();
        Due.promise(52);
        Due.due("nothing is kept", x.undo(), Due.NONE);
        Due.promise(51);
        x.tick(7);
        Due.due("image", x.image(), 1);
        x.tick(3);
        Due.promise(52);
        Due.due("undo", x.undo(), 7);
        x.tick(1);
        Due.due("it stays", x.undo(), 7);
        x.tick(5);
        x.image();
        x.tick(5);
        Due.due("the latest", x.undo(), 12);
        Due.promise(53);
        Due.due("tear", x.tear(), 1);
        Due.due("tear again", x.tear(), 0);
        Due.due("nothing is kept then", x.undo(), Due.NONE);
        Due.due("the open day stays", x.look(5), 12);
        x.image();
        x.tick(1);
        Due.due("kept anew", x.undo(), 12);
    }

    private static void imageKeepsAll() {
        Due.promise(51);
        RiverHead x = new RiverHead();
        for (int pass = 0; pass < 2; pass++) {
            x.high(1, 10 + pass);
            x.water(1, 20 + pass);
            x.king(1, 2 + pass);
            x.link(1, 2 - 2 * pass, 1);
            x.goods(1, 30 + pass);
            x.set(1, 40 + pass);
            x.go(1, 3 + pass);
            x.stop(1, 1000 - pass);
            x.row(1, 0, 5, 0);
            x.row(1, 1, pass, 0);
            x.mean(1, 1, 1 + pass);
            Due.read(x, pass == 0 ? "pass 2 9" : "bar 2", 0, 9);
            x.claim(0, pass);
            x.strike(pass, true);
            if (pass == 0) {
                x.water(41, 99);
                x.tick(100);
                x.image();
                x.feed(1, 1);
                x.sheet(0, 8, 1);
                x.write(0, 0, 5);
            } else {
                x.tick(60);
            }
        }
        x.feed(1, 1);
        x.status(9);
        Due.due("undo", x.undo(), 100);
        Due.due("links", x.look(0), 1);
        Due.due("rows", x.look(1), 2);
        Due.due("struck", x.look(2), 1);
        Due.due("texts", x.look(3), 1);
        Due.due("claims", x.look(4), 1);
        Due.due("high", x.high(1, 10), 10);
        Due.due("water", x.water(1, 20), 20);
        Due.due("king", x.king(1, 2), 2);
        Due.due("mouth", x.mouth(1, 0), 2);
        Due.due("goods", x.party(1, 1), 0);
        Due.due("cell", x.party(1, 0), 3);
        Due.due("fever", x.party(1, 2), 0);
        Due.due("going", x.party(1, 3), -1);
        Due.due("watch", x.party(1, 5), 999);
        Due.due("mean", x.mean(1, 1, 1), 1);
        Due.due("price", x.price(2), 9);
        Due.due("struck row", x.of(0, 6), 1);
        Due.due("a book that isn't closed any more", x.book(3, 0), Due.NONE);
        Due.due("a book that is", x.book(2, 0), 2);
        Due.due("the tape is not kept", x.look(6), 1);
        Due.due("nor are sheets", x.write(0, 0, 0), 5);
        Due.due("nor status", x.status(0), 1);
    }

    private static void look() {
        Due.promise(54);
        RiverHead x = new RiverHead();
        x.high(0, 9);
        x.link(0, 1, 1);
        x.link(0, 8, 1);
        for (int i = 0; i < 4; i++) {
            x.row(i, 0, 0, 100);
        }
        x.strike(1, true);
        x.strike(2, true);
        x.strike(3, true);
        Due.read(x, "bar 1", 0, 0);
        Due.read(x, "bar 1", 0, 1);
        Due.read(x, "bar 1", 2, 2);
        Due.read(x, "bar 1", 0, 2);
        Due.read(x, "bar 1", 1, 9);
        for (int i = 0; i < 6; i++) {
            x.claim(0, 0);
        }
        x.feed(0, 4);
        x.feed(0, 3);
        int[] due = {2, 4, 3, 5, 6, 0, 7, 3};
        for (int what = 0; what < 8; what++) {
            Due.due("look(" + what + ")", x.look(what), due[what]);
        }
        x.tick(359);
        Due.due("in force to the year's end", x.look(7), 3);
        x.tick(1);
        Due.due("in force in year 1", x.look(7), 3);
        Due.due("the open day", x.look(5), 360);
        x.tick(360);
        x.tick(360);
        Due.due("in force in year 3", x.look(7), 1);
        Due.due("look(8)", x.look(8), Due.BEYOND);
        Due.due("look(-1)", x.look(-1), Due.BEYOND);
    }

    private static void status() {
        Due.promise(55);
        RiverHead x = new RiverHead();
        x.look(9);                  // BEYOND
        x.look(9);
        for (int i = 0; i < 25; i++) {
            x.feed(0, 4);
        }
        x.feed(0, 1);               // FULL
        x.link(0, 2, 1);            // KIND
        x.undo();                   // NONE
        x.undo();
        x.undo();
        x.go(0, 1);                 // STATE
        x.write(0, 0, 0);           // MISSING
        x.sheet(0, 8, -1);          // SIZE
        x.text(0, 0);               // a fault is none
        x.above(48, 0);             // BEYOND, of a long
        int[] due = {3, 1, 1, 3, 1, 1, 1};
        for (int which = 0; which < 7; which++) {
            Due.due("status(" + which + ")", x.status(which), due[which]);
        }
        Due.due("all", x.status(-1), 11);
        Due.due("status(7)", x.status(7), Due.BEYOND);
        Due.due("status(-2)", x.status(-2), Due.BEYOND);
        Due.due("they count, too", x.status(0), 5);
        x.image();
        x.tick(0);
        x.undo();
        Due.due("undo takes none back", x.status(-1), 14);
    }
}
