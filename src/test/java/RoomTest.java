import com.sun.management.ThreadMXBean;
import java.lang.management.ManagementFactory;
import java.lang.reflect.Array;
import java.lang.reflect.Field;
import java.lang.reflect.Modifier;
import java.util.Collections;
import java.util.IdentityHashMap;
import java.util.Set;

/** Rule 12 of LANGUAGE.md: how much an object holds, and that no call but the first image() makes anything. */
public final class RoomTest {
    /** Far below 600,000 objects and 7.3 million fields and elements, if a run made an object with each of its 512 calls. */
    private static final int MOST_OBJECTS = 120;
    private static final int MOST_FIELDS = 4500;

    private static int objects;
    private static long fields;
    private static long sink;

    public static void main(String[] args) throws IllegalAccessException {
        objectIsSmall();
        callsMakeNothing();
        Due.end();
    }

    private static void objectIsSmall() throws IllegalAccessException {
        RiverHead x = Edge.rich();
        count(x, Collections.newSetFromMap(new IdentityHashMap<>()));
        Due.due("an object with an image is counted", objects > 50 && fields > 2000 ? 1 : 0, 1);
        Due.due("objects: " + objects, objects <= MOST_OBJECTS ? 1 : 0, 1);
        Due.due("fields and elements: " + fields, fields <= MOST_FIELDS ? 1 : 0, 1);
    }

    private static void count(Object at, Set<Object> seen) throws IllegalAccessException {
        if (at == null || !seen.add(at)) {
            return;
        }
        objects++;
        if (at.getClass().isArray()) {
            fields += Array.getLength(at);
            for (int i = 0; !at.getClass().getComponentType().isPrimitive() && i < Array.getLength(at); i++) {
                count(Array.get(at, i), seen);
            }
            return;
        }
        for (Field field : at.getClass().getDeclaredFields()) {
            if (!Modifier.isStatic(field.getModifiers())) {
                fields++;
                field.setAccessible(true);
                if (!field.getType().isPrimitive()) {
                    count(field.get(at), seen);
                }
            }
        }
    }

    private static void callsMakeNothing() {
        ThreadMXBean threads = (ThreadMXBean) ManagementFactory.getThreadMXBean();
        long self = Thread.currentThread().getId();
        RiverHead x = Edge.rich();
        // ahead of what is measured, so that classes are there
        everyAct(x);
        long nothing = threads.getThreadAllocatedBytes(self);
        nothing = threads.getThreadAllocatedBytes(self) - nothing;
        long before = threads.getThreadAllocatedBytes(self);
        everyAct(x);
        everyAct(x);
        long made = threads.getThreadAllocatedBytes(self) - before;
        Due.due("bytes that two times all acts make", made, nothing);
        Due.due("acts were asked", sink != 0 ? 1 : 0, 1);
    }

    /** Each act once with numbers that are as told, and some that are not. */
    private static void everyAct(RiverHead x) {
        sink += x.image() + x.high(0, 9) + x.water(0, 60) + x.king(0, 3) + x.link(9, 10, 7) + x.mouth(9, 0) + x.run(9, 3);
        sink += x.above(11, 0) + x.joined(9, 11) + x.source(11, 0) + x.goods(0, 50) + x.set(0, 9) + x.go(0, 47) + x.party(0, 4);
        sink += x.stop(4, 3000) + x.row(0, 4, 0, 0) + x.row(0, 1, 409, 0) + x.as(0, 3) + x.of(2, 8) + x.strike(1, true);
        sink += x.mean(0, 0, 2) + x.fits(3) + x.where(1, 92) + x.count(2, 92) + x.same(0, 1) + x.wipe() + x.feed(0x62617220, 4);
        sink += x.text(0, 9) + x.feed(0x31, 1) + x.text(0, 9) + x.why(1) + x.price(1) + x.path(9, 47) + x.pass(9, 30) + x.map(3);
        sink += x.slips(3, 2) + x.copied(4) + x.guesses() + x.shore(20) + x.claim(0, 9) + x.call(0) + x.fall(0) + x.next();
        sink += x.plan(15) + x.judge(0, 0) + x.beside(0) + x.tick(60) + x.book(3, 0) + x.check(0, 0) + x.known(92);
        sink += x.sheet(3, 8, 40) + x.write(3, 0, 5) + x.copy(3, 0, 3, 1, 39) + x.look(1) + x.status(-1) + x.high(48, 0) + x.undo();
        sink += x.tear() + x.image();
    }
}
