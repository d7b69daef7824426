/** Promises 1 to 10: a new object, and the land. */
public final class LandTest {
    public static void main(String[] args) {
        newObject();
        high();
        waterAndKing();
        link();
        linksAreForty();
        mouthAndRun();
        above();
        joined();
        source();
        Due.end();
    }

    private static void newObject() {
        Due.promise(1);
        RiverHead x = new RiverHead();
        for (int cell = 0; cell < 48; cell++) {
            Due.due("high of a new object", x.high(cell, 0), 0);
            Due.due("water of a new object", x.water(cell, 0), 0);
            Due.due("king of a new object", x.king(cell, 0), 0);
        }
        for (int what = 0; what < 8; what++) {
            Due.due("look of a new object", x.look(what), 0);
        }
        for (int tongue = 0; tongue < 4; tongue++) {
            for (int word = 0; word < 10; word++) {
                Due.due("mean of a new object", x.mean(tongue, word, 0), 0);
            }
        }
        for (int party = 0; party < 5; party++) {
            int[] due = {0, 0, 0, -1, 0, 3599};
            for (int what = 0; what < 6; what++) {
                Due.due("party of a new object", x.party(party, what), due[what]);
            }
        }
        Due.due("undo of a new object", x.undo(), Due.NONE);
        Due.due("tear of a new object", x.tear(), 0);
        for (int s = 0; s < 4; s++) {
            Due.due("a sheet of a new object", x.write(s, 0, 1), Due.MISSING);
        }
        Due.due("status of a new object", x.status(-1), 5);
    }

    private static void high() {
        Due.promise(2);
        RiverHead x = new RiverHead();
        Due.due("high(47, 4000)", x.high(47, 4000), 0);
        Due.due("high(47, 0)", x.high(47, 0), 4000);
        Due.due("high(-1, 0)", x.high(-1, 0), Due.BEYOND);
        Due.due("high(48, 0)", x.high(48, 0), Due.BEYOND);
        Due.due("high(0, -1)", x.high(0, -1), Due.BEYOND);
        Due.due("high(0, 4001)", x.high(0, 4001), Due.BEYOND);
        x.high(0, 300);
        x.high(1, 200);
        x.high(2, 100);
        x.link(0, 1, 1);
        x.link(1, 2, 4095);
        Due.due("as high as where it runs", x.high(1, 100), Due.STATE);
        Due.due("as high as what runs into it", x.high(1, 300), Due.STATE);
        Due.due("just above where it runs", x.high(1, 101), 200);
        Due.due("just below what runs into it", x.high(1, 299), 101);
        Due.due("what a finding left", x.high(1, 150), 299);
        Due.due("beyond ahead of state", x.high(1, 4001), Due.BEYOND);
        Due.due("the head lower than its end", x.high(0, 150), Due.STATE);
        Due.due("the end raised", x.high(2, 150), Due.STATE);
    }

    private static void waterAndKing() {
        Due.promise(3);
        RiverHead x = new RiverHead();
        Due.due("water(0, 99)", x.water(0, 99), 0);
        Due.due("water(0, 5)", x.water(0, 5), 99);
        Due.due("water(0, 100)", x.water(0, 100), Due.BEYOND);
        Due.due("water(0, -1)", x.water(0, -1), Due.BEYOND);
        Due.due("water(48, 1)", x.water(48, 1), Due.BEYOND);
        Due.due("water(-1, 1)", x.water(-1, 1), Due.BEYOND);
        Due.due("water(0, 5) still", x.water(0, 5), 5);
        Due.promise(4);
        Due.due("king(47, 5)", x.king(47, 5), 0);
        Due.due("king(47, 0)", x.king(47, 0), 5);
        Due.due("king(47, 6)", x.king(47, 6), Due.BEYOND);
        Due.due("king(47, -1)", x.king(47, -1), Due.BEYOND);
        Due.due("king(48, 0)", x.king(48, 0), Due.BEYOND);
        Due.due("king(-1, 0)", x.king(-1, 0), Due.BEYOND);
    }

    private static void link() {
        Due.promise(5);
        RiverHead x = new RiverHead();
        x.high(9, 10);
        Due.due("link north", x.link(9, 1, 1), 0);
        Due.due("link east", x.link(9, 10, 2048), 1);
        Due.due("link south", x.link(9, 17, 4095), 2);
        Due.due("link west", x.link(9, 8, 3), 3);
        Due.due("the same again", x.link(9, 8, 3), 4);
        Due.due("no months", x.link(9, 8, 0), Due.BEYOND);
        Due.due("a month 12", x.link(9, 8, 4096), Due.BEYOND);
        Due.due("months below 0", x.link(9, 8, -1), Due.BEYOND);
        Due.due("from -1", x.link(-1, 0, 1), Due.BEYOND);
        Due.due("to 48", x.link(47, 48, 1), Due.BEYOND);
        Due.due("beyond ahead of kind", x.link(9, 9, 0), Due.BEYOND);
        Due.due("to itself", x.link(9, 9, 1), Due.KIND);
        Due.due("askew", x.link(9, 0, 1), Due.KIND);
        x.high(15, 10);
        Due.due("over the edge of the land", x.link(15, 16, 1), Due.KIND);
        Due.due("kind ahead of state", x.link(0, 9, 1), Due.KIND);
        Due.due("level", x.link(20, 21, 1), Due.STATE);
        Due.due("up", x.link(8, 9, 1), Due.STATE);
        Due.due("links then", x.look(0), 5);
    }

    private static void linksAreForty() {
        Due.promise(5);
        RiverHead x = new RiverHead();
        x.high(0, 1);
        for (int i = 0; i < 40; i++) {
            Due.due("a link of forty", x.link(0, 1, 1), i);
        }
        Due.due("one link more", x.link(0, 1, 1), Due.FULL);
        Due.due("state ahead of full", x.link(1, 0, 1), Due.STATE);
        Due.due("kind ahead of full", x.link(0, 2, 1), Due.KIND);
        Due.due("beyond ahead of full", x.link(0, 48, 1), Due.BEYOND);
        Due.due("links then", x.look(0), 40);
    }

    /** Runs down the first row of cells, then down its last column; in month 1 from 3 to the south. */
    private static RiverHead river() {
        RiverHead x = new RiverHead();
        int[] way = {0, 1, 2, 3, 4, 5, 6, 7, 15, 23};
        for (int i = 0; i < way.length; i++) {
            x.high(way[i], 1000 - i);
        }
        x.link(3, 11, 1 << 1);
        for (int i = 0; i + 1 < way.length; i++) {
            x.link(way[i], way[i + 1], 4095);
        }
        return x;
    }

    private static void mouthAndRun() {
        RiverHead x = river();
        Due.promise(6);
        Due.due("mouth(0, 0)", x.mouth(0, 0), 23);
        Due.due("mouth(23, 11)", x.mouth(23, 11), 23);
        Due.due("the least link counts", x.mouth(0, 1), 11);
        Due.due("below the fork", x.mouth(4, 1), 23);
        Due.due("no link", x.mouth(40, 1), 40);
        Due.due("no link in this month", seasonal().mouth(0, 2), 0);
        RiverHead turned = seasonal();
        turned.mouth(0, 1);
        Due.due("nor any from a month asked before", turned.mouth(0, 2), 0);
        Due.due("mouth(48, 0)", x.mouth(48, 0), Due.BEYOND);
        Due.due("mouth(-1, 0)", x.mouth(-1, 0), Due.BEYOND);
        Due.due("mouth(0, 12)", x.mouth(0, 12), Due.BEYOND);
        Due.due("mouth(0, -1)", x.mouth(0, -1), Due.BEYOND);
        Due.promise(7);
        Due.due("run(0, 0)", x.run(0, 0), 9);
        Due.due("run(0, 1)", x.run(0, 1), 4);
        Due.due("run(23, 0)", x.run(23, 0), 0);
        Due.due("run(48, 0)", x.run(48, 0), Due.BEYOND);
        Due.due("run(0, 12)", x.run(0, 12), Due.BEYOND);
    }

    private static RiverHead seasonal() {
        RiverHead x = new RiverHead();
        x.high(0, 1);
        x.link(0, 1, 2);
        return x;
    }

    private static void above() {
        Due.promise(8);
        RiverHead x = river();
        Due.due("above(4, 0)", x.above(4, 0), Due.cells(0, 1, 2, 3, 4));
        Due.due("above(4, 1)", x.above(4, 1), Due.cells(4));
        Due.due("above(11, 1)", x.above(11, 1), Due.cells(0, 1, 2, 3, 11));
        Due.due("above(47, 1)", x.above(47, 1), Due.cells(47));
        Due.due("above(48, 0)", x.above(48, 0), Due.BEYOND);
        Due.due("above(0, 12)", x.above(0, 12), Due.BEYOND);
        Due.due("above(0, -1)", x.above(0, -1), Due.BEYOND);
    }

    private static void joined() {
        Due.promise(9);
        RiverHead x = river();
        Due.due("joined(0, 5)", x.joined(0, 5), 4095 - 2);
        Due.due("joined(0, 11)", x.joined(0, 11), 2);
        Due.due("joined(0, 0)", x.joined(0, 0), 4095);
        Due.due("joined(0, 40)", x.joined(0, 40), 0);
        Due.due("joined(-1, 0)", x.joined(-1, 0), Due.BEYOND);
        Due.due("joined(0, 48)", x.joined(0, 48), Due.BEYOND);
    }

    private static void source() {
        Due.promise(10);
        RiverHead x = new RiverHead();
        // 8 and 10 run into 9 and that into 17; 2 into 10.
        x.high(17, 1);
        x.high(9, 100);
        x.high(8, 900);
        x.high(10, 200);
        x.high(2, 300);
        x.water(9, 70);
        x.water(8, 70);
        x.water(47, 99);
        x.link(8, 9, 4095);
        x.link(10, 9, 4095);
        x.link(2, 10, 4095 - 1);
        x.link(9, 17, 4095);
        Due.due("longest without a clause", x.source(17, 1), 2);
        Due.due("of like ones the least", x.source(17, 0), 8);
        Due.due("by itself", x.source(47, 0), 47);
        x.high(0, 5);
        x.link(0, 1, 4095);
        Due.due("from cell 0", x.source(1, 0), 0);
        Due.due("a text", Due.read(x, "source most", 0, 0), 0);
        Due.due("most, the least of like ones", x.source(17, 1), 8);
        x.water(17, 71);
        Due.due("most, itself", x.source(17, 1), 17);
        x.water(17, 0);
        Due.due("a later text", Due.read(x, "source highest in 1-2;source most in 0-0", 0, 9), 1);
        x.water(9, 71);
        Due.due("most still, as the open month is 0", x.source(17, 1), 9);
        x.tick(30);
        Due.due("highest in the open month 1", x.source(17, 0), 8);
        Due.due("highest of its own", x.source(10, 1), 2);
        x.tick(60);
        Due.due("the first text again in month 3", x.source(17, 1), 9);
        x.tick(270);
        Due.due("highest in year 1, month 0: most", x.source(17, 1), 9);
        x.tick(90);
        Due.due("no clause in year 1, month 3", x.source(17, 1), 2);
        Due.due("a word for longest", Due.read(x, "source longest", 1, 1), 2);
        Due.due("longest", x.source(17, 1), 2);
        Due.due("source(48, 0)", x.source(48, 0), Due.BEYOND);
        Due.due("source(-1, 0)", x.source(-1, 0), Due.BEYOND);
        Due.due("source(0, 12)", x.source(0, 12), Due.BEYOND);
        Due.due("source(0, -1)", x.source(0, -1), Due.BEYOND);
    }
}
