import com.sun.management.ThreadMXBean;
import java.lang.management.ManagementFactory;
import java.lang.reflect.Array;
import java.lang.reflect.Field;
import java.lang.reflect.Modifier;
import java.util.ArrayDeque;
import java.util.Collections;
import java.util.Deque;
import java.util.IdentityHashMap;
import java.util.Set;

/** All calls live in one room: what an object takes of it, and that no call makes another object or array. */
final class RoomTest {
    private static final ThreadMXBean THREADS = (ThreadMXBean) ManagementFactory.getThreadMXBean();
    private static final int ROUNDS = 3;

    private RoomTest() {
    }

    public static void main(String[] args) throws Exception {
        Due.each(RoomTest.class);
    }

    /** README.md tells these; a run may make some thousands of objects before the room is full. */
    static void whatAnObjectTakes() throws Exception {
        int[] taken = taken(new NineLedges());
        Due.due("objects and arrays", taken[0], 119);
        Due.due("fields and elements", taken[1], 2134);
        int[] used = taken(Scene.busy());
        Due.due("no more in the midst of things", used[0] == taken[0] && used[1] == taken[1]);
    }

    private static int[] taken(Object first) throws Exception {
        Set<Object> seen = Collections.newSetFromMap(new IdentityHashMap<>());
        Deque<Object> left = new ArrayDeque<>();
        left.add(first);
        int parts = 0;
        while (!left.isEmpty()) {
            Object o = left.remove();
            if (o instanceof String || !seen.add(o)) {
                continue;
            }
            parts += o.getClass().isArray() ? elements(o, left) : fields(o, left);
        }
        return new int[] {seen.size(), parts};
    }

    private static int elements(Object array, Deque<Object> left) {
        int n = Array.getLength(array);
        for (int i = 0; i < n && !array.getClass().getComponentType().isPrimitive(); i++) {
            left.add(Array.get(array, i));
        }
        return n;
    }

    private static int fields(Object o, Deque<Object> left) throws Exception {
        int n = 0;
        for (Class<?> c = o.getClass(); c != Object.class; c = c.getSuperclass()) {
            for (Field f : c.getDeclaredFields()) {
                if (!Modifier.isStatic(f.getModifiers())) {
                    n++;
                    f.setAccessible(true);
                    if (!f.getType().isPrimitive() && f.get(o) != null) {
                        left.add(f.get(o));
                    }
                }
            }
        }
        return n;
    }

    /** Every call of the face, answered and refused; the rounds ahead of the last are for the machine's own objects. */
    static void noCallMakesAnObject() {
        NineLedges[] objects = new NineLedges[ROUNDS];
        for (int i = 0; i < ROUNDS; i++) {
            objects[i] = Scene.busy();
        }
        long made = -1;
        for (NineLedges x : objects) {
            long before = THREADS.getCurrentThreadAllocatedBytes();
            path(x);
            wouldBe(x);
            rest(x);
            made = THREADS.getCurrentThreadAllocatedBytes() - before;
        }
        Due.due("bytes made by 512 calls at most", made, 0);
    }

    private static void path(NineLedges x) {
        for (int v = -1; v < 26; v++) {
            x.room(v, 2);
            x.ofYard(v, v % 3);
            x.ofGoer(0, v);
        }
        for (int v = 0; v < 3; v++) {
            x.goer(60 + 9 * v, 1, 2, 990);
            x.become(v, 33 + 30 * v);
            x.as(v, 3);
            x.start(7, 990 + 9 * v);
            x.home(5);
            x.text(v);
            for (int i = 0; i < 7; i++) {
                x.feed(0x6c2b6c2b6c2b6c2bL, 8);
            }
            x.text(v);
            x.feed(0x6c2b6cL, 3);
            x.text(v);
            x.law(v, 1, 2, 3);
        }
        x.minutes(20);
        x.minutes(301);
        x.loose(20);
        x.loose(0);
    }

    private static void wouldBe(NineLedges x) {
        x.then(300, 0, 6);
        x.then(301, 0, 6);
        x.overBy();
        x.stuckBy();
        for (int goer = -1; goer < 9; goer++) {
            x.bestStart(goer, 0);
            x.spare(goer);
            x.without(goer);
        }
        x.newOne(0);
        x.room(0, 1);
        x.newOne(0);
        x.newOne(1);
        x.newOne(2);
        x.faults();
    }

    private static void rest(NineLedges x) {
        x.seed(5);
        for (int goer = 0; goer < 8; goer++) {
            for (int act = 0; act < 5; act++) {
                x.voice(goer, act, 7);
                x.trace(act);
            }
        }
        for (int sheet = -1; sheet < 5; sheet++) {
            x.sheet(sheet, 8, 40);
            x.put(sheet, 3, 300);
            x.move(sheet, 0, 0, 1, 39);
            x.rooms(sheet);
            x.judge(sheet);
        }
        x.image();
        x.restore();
        for (int i = 0; i < 21; i++) {
            x.tell(1);
        }
        x.check();
        for (int what = -1; what < 12; what++) {
            x.count(what);
            x.told(what);
        }
    }
}
