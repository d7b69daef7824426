/** Promises 37 to 43: claims and plans. */
public final class ClaimsTest {
    public static void main(String[] args) {
        claim();
        call();
        fall();
        next();
        plan();
        planOfMarches();
        judge();
        judgeFindings();
        beside();
        Due.end();
    }

    private static void claim() {
        Due.promise(37);
        RiverHead x = new RiverHead();
        Due.due("no row", x.claim(0, 0), Due.BEYOND);
        x.row(0, 0, 0, 0);
        Due.due("claim(-1, 0)", x.claim(-1, 0), Due.BEYOND);
        Due.due("claim(1, 0)", x.claim(1, 0), Due.BEYOND);
        Due.due("claim(0, 48)", x.claim(0, 48), Due.BEYOND);
        Due.due("claim(0, -1)", x.claim(0, -1), Due.BEYOND);
        for (int i = 0; i < 20; i++) {
            Due.due("a claim of twenty", x.claim(0, i), i);
        }
        Due.due("one more", x.claim(0, 0), Due.FULL);
        Due.due("beyond ahead of full", x.claim(0, 48), Due.BEYOND);
        Due.due("claims", x.look(4), 20);
    }

    private static void call() {
        Due.promise(38);
        RiverHead x = new RiverHead();
        x.high(20, 4000);
        x.row(0, 0, 0, 0);
        x.claim(0, 20);
        x.claim(0, 21);
        Due.due("it can be", x.call(0), 1);
        x.row(0, 2, 2, 4);
        Due.due("not known yet", x.call(0), 1);
        x.tick(4);
        Due.due("it must be", x.call(0), 2);
        Due.due("it can't be", x.call(1), 0);
        x.high(20, 0);
        Due.due("nowhere at all", x.call(0), 0);
        Due.due("call(2)", x.call(2), Due.BEYOND);
        Due.due("call(-1)", x.call(-1), Due.BEYOND);
    }

    private static void fall() {
        Due.promise(39);
        RiverHead x = new RiverHead();
        x.high(20, 4000);
        x.row(0, 2, 2, 0);      // 0: 20 alone
        x.row(0, 3, 205, 0);    // 1: any
        x.row(1, 3, 200, 0);    // 2: y is 2
        x.claim(1, 20);         // must
        x.claim(0, 21);         // can't
        x.claim(2, 21);         // can
        x.claim(2, 47);         // can't
        Due.due("of a row that says all", x.fall(0), 3);
        Due.due("of a row that says nothing", x.fall(1), 0);
        Due.due("of another book", x.fall(2), 8);
        Due.due("nothing is struck by that", x.look(2), 0);
        x.strike(0, true);
        Due.due("if it were not struck", x.fall(0), 3);
        Due.due("it is struck still", x.of(0, 6), 1);
        Due.due("fall(3)", x.fall(3), Due.BEYOND);
        Due.due("fall(-1)", x.fall(-1), Due.BEYOND);
        x.row(0, 2, 2, 9);
        Due.due("of a row not known", x.fall(3), 0);
        for (int i = 4; i < 20; i++) {
            x.claim(0, i);
        }
        Due.due("of many claims", x.fall(0), 0xFFFFF & ~0xC);
        RiverHead y = new RiverHead();
        y.high(0, 4000);
        y.row(1, 0, 0, 0);
        y.row(0, 2, 2, 0);
        y.claim(0, 5);
        y.claim(1, 0);
        y.claim(1, 5);
        Due.due("what must be only can be, and what can't be can", y.fall(1), 6);
        Due.due("a claim of another book stays", y.fall(0), 0);
        y.strike(1, true);
        Due.due("and the other way", y.fall(1), 6);
        RiverHead march = new RiverHead();
        march.high(20, 4000);
        march.row(0, 2, 2, 0);
        march.row(0, 1, 101, 0);
        march.claim(1, 20);
        march.claim(1, 21);
        march.claim(0, 20);
        Due.due("what must be can't be, and the other way", march.fall(1), 3);
        RiverHead z = new RiverHead();
        z.row(0, 3, 200, 0);
        z.row(0, 3, 201, 0);
        z.claim(0, 16);
        Due.due("what can be can be still", z.fall(0), 0);
        z.row(0, 3, 300, 0);
        Due.due("what can't be can't be still", z.fall(1), 0);
        Due.due("what can't be can be", z.fall(2), 1);
    }

    private static void next() {
        Due.promise(40);
        RiverHead x = new RiverHead();
        Due.due("no claims", x.next(), Due.NONE);
        RiverHead one = new RiverHead();
        one.row(0, 0, 0, 0);
        one.claim(0, 5);
        Due.due("the first claim", one.next(), 0);
        x.row(0, 3, 100, 0);
        x.row(1, 3, 101, 0);
        x.row(2, 3, 500, 0);
        x.claim(0, 47);
        Due.due("none that can be", x.next(), Due.NONE);
        x.claim(0, 8);
        Due.due("one claim", x.next(), 0);
        x.claim(1, 0);
        Due.due("parts one of the two", x.next(), 0);
        x.claim(1, 1);
        x.claim(1, 2);
        Due.due("four: three and one", x.next(), 0);
        x.claim(2, 40);
        x.claim(2, 41);
        Due.due("six: 0 has three, 8 four, 40 two", x.next(), 0);
        x.claim(1, 3);
        x.claim(1, 4);
        x.claim(1, 5);
        Due.due("nine: 0 has six, 8 seven, 40 two", x.next(), 0);
        x.claim(2, 42);
        x.claim(2, 43);
        x.strike(1, true);
        Due.due("eleven: 0 has six, 8 seven, 40 ten", x.next(), 0);
        x.strike(1, false);
        x.claim(0, 9);
        x.claim(0, 10);
        Due.due("thirteen: 0 has six, 8 nine, 40 four", x.next(), 0);
        x.claim(2, 44);
        x.claim(2, 45);
        x.claim(2, 46);
        Due.due("sixteen: 0 has six, 8 nine: seven apart", x.next(), 8);
    }

    private static void plan() {
        Due.promise(41);
        RiverHead x = new RiverHead();
        Due.due("no rows", x.plan(1), Due.BEYOND);
        x.row(0, 3, 100, 0);    // 0
        x.row(1, 0, 0, 0);      // 1: another book
        x.row(0, 3, 200, 0);    // 2
        x.row(0, 3, 200, 0);    // 3
        x.row(0, 3, 300, 0);    // 4
        Due.due("0", x.plan(0), Due.BEYOND);
        Due.due("a row 5", x.plan(1L << 5 | 1), Due.BEYOND);
        Due.due("a row 63", x.plan(1L | 1L << 63), Due.BEYOND);
        Due.due("all bits", x.plan(-1), Due.BEYOND);
        Due.due("of two parties", x.plan(3), Due.KIND);
        Due.due("the two that are odd", x.plan(0b11101), 0b1001);
        Due.due("too few", x.plan(0b00101), Due.NONE);
        Due.due("as bits of the set", x.plan(0b11001), 0b101);
        Due.due("three if it must be", x.plan(0b01101), 0b111);
        x.strike(4, true);
        Due.due("one is struck already", x.plan(0b11101), 0b0001);
        Due.due("of another book, nothing", x.plan(2), 0);
        for (int i = 5; i < 13; i++) {
            x.row(1, 0, 0, 0);
        }
        Due.due("eight", x.plan(0b1111111100000L), 0);
        Due.due("nine", x.plan(0b1111111100010L), Due.SIZE);
        Due.due("kind ahead of size", x.plan(0b1111111111111L), Due.KIND);
        Due.due("beyond ahead of kind", x.plan(0b11111111111111L), Due.BEYOND);
    }

    private static void planOfMarches() {
        Due.promise(41);
        RiverHead x = new RiverHead();
        x.row(0, 3, 100, 0);    // 0: y is 1
        x.row(0, 1, 201, 0);    // 1: a step south
        x.row(0, 3, 200, 9);    // 2: y is 2, not known
        Due.due("nothing to strike", x.plan(7), 0);
        x.row(0, 3, 100, 0);    // 3: y is 1
        Due.due("of like ones the least: 0", x.plan(0b1111), 1);
        Due.due("the march", x.plan(0b0110), 1);
        x.tick(9);
        Due.due("all known: the last", x.plan(0b1111), 8);
        Due.due("the march and 2", x.plan(0b0110), 3);
        x.row(0, 3, 300, 0);    // 4: y is 3
        Due.due("two of three", x.plan(0b11010), 0b110);
        Due.due("both of two", x.plan(0b11000), 0b11);
        RiverHead y = new RiverHead();
        y.row(0, 3, 100, 0);    // 0: y is 1
        y.row(0, 1, 201, 0);    // 1: south
        y.row(0, 1, 1, 0);      // 2: north
        y.row(0, 3, 200, 0);    // 3: y is 2
        Due.due("one march, though both would be none", y.plan(0b0110), 0b10);
    }

    private static void judge() {
        Due.promise(42);
        RiverHead x = new RiverHead();
        x.high(9, 4000);
        x.row(2, 1, 101, 0);    // 0: a step east
        x.row(2, 2, 2, 0);      // 1: 9 alone
        x.row(1, 0, 0, 0);      // of another book
        x.row(2, 3, 400, 20);   // 2: not known
        x.row(2, 1, 402, 0);    // 3: two steps any way
        x.row(2, 1, 201, 0);    // 4: a step south, struck
        x.row(2, 0, 0, 0);      // 5
        x.strike(5, true);
        x.sheet(0, 8, 6);
        int[] good = {9, 9, 9, 16, 16, 16};
        for (int i = 0; i < 6; i++) {
            x.write(0, i, good[i]);
        }
        Due.due("all go", x.judge(2, 0), 6);
        x.write(0, 0, 8);
        Due.due("no step leads to the first", x.judge(2, 0), 0);
        x.write(0, 0, 10);
        Due.due("another one than before", x.judge(2, 0), 1);
        x.write(0, 1, 10);
        Due.due("one that it doesn't fit", x.judge(2, 0), 1);
        x.write(0, 0, 9);
        x.write(0, 1, 9);
        x.write(0, 2, 10);
        Due.due("an unknown one elsewhere", x.judge(2, 0), 2);
        x.write(0, 2, 9);
        x.write(0, 3, 18 + 8);
        Due.due("three steps", x.judge(2, 0), 3);
        x.write(0, 3, 9);
        x.write(0, 4, 17);
        Due.due("a struck step", x.judge(2, 0), 4);
        x.write(0, 4, 48);
        Due.due("no cell", x.judge(2, 0), 4);
        x.write(0, 4, 9);
        x.write(0, 5, -1);
        Due.due("below 0", x.judge(2, 0), 5);
        x.write(0, 5, 9);
        Due.due("all go again", x.judge(2, 0), 6);
        x.tick(20);
        Due.due("known now", x.judge(2, 0), 2);
        x.sheet(1, 64, 1);
        x.write(1, 0, 47);
        Due.due("the first one is anywhere", x.judge(1, 1), 1);
        x.write(1, 0, 0);
        Due.due("in cell 0, too", x.judge(1, 1), 1);
        x.write(1, 0, 48);
        Due.due("not in cell 48", x.judge(1, 1), 0);
        x.write(1, 0, 1L << 32);
        Due.due("a number too great", x.judge(1, 1), 0);
    }

    private static void judgeFindings() {
        Due.promise(42);
        RiverHead x = new RiverHead();
        x.row(0, 0, 0, 0);
        x.sheet(0, 16, 0);
        x.sheet(1, 16, 2);
        Due.due("judge(5, 0)", x.judge(5, 0), Due.BEYOND);
        Due.due("judge(-1, 0)", x.judge(-1, 0), Due.BEYOND);
        Due.due("judge(0, 4)", x.judge(0, 4), Due.BEYOND);
        Due.due("judge(0, -1)", x.judge(0, -1), Due.BEYOND);
        Due.due("missing", x.judge(0, 3), Due.MISSING);
        Due.due("too few", x.judge(0, 0), Due.SIZE);
        Due.due("too many", x.judge(0, 1), Due.SIZE);
        Due.due("an empty book", x.judge(4, 0), 0);
        x.sheet(2, 8, 1);
        x.strike(0, true);
        x.write(2, 0, 48);
        Due.due("a first struck one: no cell", x.judge(0, 2), 0);
        x.write(2, 0, 47);
        Due.due("a first struck one: any cell", x.judge(0, 2), 1);
    }

    private static void beside() {
        Due.promise(43);
        RiverHead x = new RiverHead();
        x.tick(100);
        x.row(0, 3, 200, 0);
        x.row(0, 0, 0, 0);
        Due.due("right", x.beside(1), 8);
        x.stop(0, 50);
        Due.due("count", x.count(1, 100), 48);
        Due.due("were it right", x.beside(1), 8);
        Due.due("right up to still", x.party(0, 5), 49);
        x.row(0, 3, 300, 5);
        Due.due("not known yet", x.beside(0), 8);
        x.tick(5);
        Due.due("known", x.beside(0), 0);
        Due.due("beside(3)", x.beside(3), Due.BEYOND);
        Due.due("beside(-1)", x.beside(-1), Due.BEYOND);
    }
}
