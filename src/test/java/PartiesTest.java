/** Promises 11 to 15: parties. */
public final class PartiesTest {
    public static void main(String[] args) {
        goodsSetGo();
        party();
        stop();
        Due.end();
    }

    private static void goodsSetGo() {
        RiverHead x = new RiverHead();
        Due.promise(11);
        Due.due("goods(4, 999)", x.goods(4, 999), 0);
        Due.due("goods(4, 0)", x.goods(4, 0), 999);
        Due.due("goods(4, 1000)", x.goods(4, 1000), Due.BEYOND);
        Due.due("goods(4, -1)", x.goods(4, -1), Due.BEYOND);
        Due.due("goods(5, 1)", x.goods(5, 1), Due.BEYOND);
        Due.due("goods(-1, 1)", x.goods(-1, 1), Due.BEYOND);
        Due.promise(13);
        Due.due("go without goods", x.go(4, 1), Due.STATE);
        Due.due("go nowhere without goods", x.go(4, 0), Due.STATE);
        Due.due("beyond ahead of state", x.go(4, 48), Due.BEYOND);
        Due.due("go(5, 1)", x.go(5, 1), Due.BEYOND);
        Due.due("go(-1, 1)", x.go(-1, 1), Due.BEYOND);
        Due.due("go(4, -1)", x.go(4, -1), Due.BEYOND);
        x.goods(4, 2);
        Due.due("across the land", x.go(4, 47), 12);
        Due.due("going", x.party(4, 3), 47);
        Due.due("to where it is", x.go(4, 0), 0);
        Due.due("going no more", x.party(4, 3), -1);
        x.go(4, 47);
        x.goods(4, 0);
        Due.due("going still", x.party(4, 3), 47);
        Due.promise(12);
        Due.due("set(4, 20)", x.set(4, 20), 0);
        Due.due("not going", x.party(4, 3), -1);
        Due.due("set(4, 20) again", x.set(4, 20), 20);
        Due.due("set(4, 48)", x.set(4, 48), Due.BEYOND);
        Due.due("set(4, -1)", x.set(4, -1), Due.BEYOND);
        Due.due("set(5, 0)", x.set(5, 0), Due.BEYOND);
        Due.due("set(-1, 0)", x.set(-1, 0), Due.BEYOND);
        Due.due("set(0, 0)", x.set(0, 0), 0);
    }

    private static void party() {
        Due.promise(14);
        RiverHead x = new RiverHead();
        x.set(2, 30);
        x.goods(2, 7);
        x.go(2, 31);
        x.row(2, 0, 0, 0);
        x.row(1, 0, 0, 0);
        x.row(2, 0, 0, 9);
        x.strike(0, true);
        x.stop(2, 100);
        int[] due = {30, 7, 0, 31, 2, 99};
        for (int what = 0; what < 6; what++) {
            Due.due("party(2, " + what + ")", x.party(2, what), due[what]);
        }
        Due.due("rows of another", x.party(1, 4), 1);
        Due.due("party(2, 6)", x.party(2, 6), Due.BEYOND);
        Due.due("party(2, -1)", x.party(2, -1), Due.BEYOND);
        Due.due("party(5, 0)", x.party(5, 0), Due.BEYOND);
        Due.due("party(-1, 0)", x.party(-1, 0), Due.BEYOND);
    }

    private static void stop() {
        Due.promise(15);
        RiverHead x = new RiverHead();
        Due.due("stop(3, 3599)", x.stop(3, 3599), 3599);
        Due.due("stop(3, 50)", x.stop(3, 50), 3598);
        Due.due("right up to", x.party(3, 5), 49);
        Due.due("stopped later", x.stop(3, 51), Due.STATE);
        Due.due("stopped on that day already", x.stop(3, 50), Due.STATE);
        Due.due("right as before", x.party(3, 5), 49);
        Due.due("both told", x.status(4), 2);
        Due.due("on the last day on which it is right", x.stop(3, 49), 49);
        Due.due("stop(3, 0)", x.stop(3, 0), 48);
        Due.due("right on no day", x.party(3, 5), -1);
        Due.due("stop(3, 1)", x.stop(3, 1), Due.STATE);
        Due.due("stop(3, 0) again", x.stop(3, 0), Due.STATE);
        Due.due("right on no day still", x.party(3, 5), -1);
        Due.due("stop(5, 0)", x.stop(5, 0), Due.BEYOND);
        Due.due("stop(-1, 0)", x.stop(-1, 0), Due.BEYOND);
        Due.due("beyond ahead of state", x.stop(3, 3600), Due.BEYOND);
        Due.due("stop(3, -1)", x.stop(3, -1), Due.BEYOND);
        Due.due("another party", x.party(2, 5), 3599);
    }
}
