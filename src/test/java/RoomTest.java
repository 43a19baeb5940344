import com.sun.management.ThreadMXBean;
import java.lang.management.ManagementFactory;
import java.lang.reflect.Array;
import java.lang.reflect.Field;
import java.lang.reflect.Modifier;
import java.util.ArrayDeque;
import java.util.Collections;
import java.util.Deque;
import java.util.IdentityHashMap;
import java.util.Set;

/** All calls of a run live in one room: what one object holds is small, and no call makes anything more. */
public final class RoomTest {
    private static final int MOST_OBJECTS = 300;
    private static final int MOST_CELLS = 6000;
    private static final int ROUNDS = 200;
    // None is made; this leaves room for what the machine itself might note in between.
    private static final long MOST_BYTES = 2000;
    private static final String TEXT = "c3;s0 20;s1 35;s2 9;s3 50;s0 99;s1 1;s2 70;s3 4;w0,1,2,3,4,5;w1;w2,7;w3,0;w4;w6,5;";
    private static int wrong = 0;
    private static int objects = 0;
    private static int cells = 0;
    private static int sum = 0;

    private RoomTest() {
    }

    public static void main(String[] args) throws IllegalAccessException {
        HandedLens lens = new HandedLens();
        count(lens);
        int first = objects;
        int firstCells = cells;
        check(first <= MOST_OBJECTS, "a new object holds " + first + " objects and arrays");
        check(firstCells <= MOST_CELLS, "a new object holds " + firstCells + " fields and elements");
        round(lens, 1);
        long made = bytesOf(lens);
        check(made < MOST_BYTES, "calls have made " + made + " bytes of objects");
        count(lens);
        check(objects == first && cells == firstCells, "behind calls it holds " + objects + " objects and " + cells + " cells");
        System.out.println(wrong == 0
                ? "an object holds " + first + " objects and arrays, " + firstCells + " fields and elements; calls make none"
                : wrong + " things take too much room");
        if (wrong != 0) {
            System.exit(1);
        }
    }

    private static void check(boolean so, String what) {
        if (!so) {
            wrong++;
            System.out.println(what);
        }
    }

    private static long bytesOf(HandedLens lens) {
        ThreadMXBean threads = (ThreadMXBean) ManagementFactory.getThreadMXBean();
        threads.getCurrentThreadAllocatedBytes();
        long before = threads.getCurrentThreadAllocatedBytes();
        for (int i = 0; i < ROUNDS; i++) {
            round(lens, i);
        }
        return threads.getCurrentThreadAllocatedBytes() - before;
    }

    /** Every call, some refused; one object made by each call would be more than a round's share of bytes. */
    private static void round(HandedLens x, int i) {
        for (int at = 0; at < TEXT.length(); at++) {
            sum += x.feed(TEXT.charAt(at));
        }
        sum += x.feed(-1) + x.line() + x.fault() + x.line();
        for (int at = 0; at < TEXT.length(); at++) {
            sum += x.feed(TEXT.charAt(at));
        }
        sum += x.line() + x.seed(i);
        for (int k = 0; k < 10; k++) {
            sum += x.chip(k, 90 - 8 * k - i % 8) + x.wear(k) + x.year(3) + x.drift(5) + x.wipe(k + 3) + x.takeOff();
            deeds(x, k);
            asked(x, k);
        }
        sum += x.undo(7) + x.tear() + x.feed(99) + x.line();
    }

    private static void deeds(HandedLens x, int k) {
        sum += x.keep(k) + x.meet(k, k % 2 == 0) + x.write(k, 7 - k) + x.undo(k) + x.goBack(k) + x.year(0) + x.drift(31);
    }

    private static void asked(HandedLens x, int k) {
        for (int what = 0; what < 6; what++) {
            sum += x.told(what) + x.told(what + 6) + x.told(what + 12) + x.scene(k, what) + x.wearer(k, what);
            sum += x.layer(k, what) + x.logged(k, what) + x.toWipe(85 + k, what) + x.order(31 - k, what) + x.only(k, what);
        }
        sum += x.takes(k) + x.dark(k * 7) + x.tooDark(k) + x.willShow(k, k * 7) + x.ground(k) + x.mist(k * 7, k * 11);
        sum += x.couldBe() + x.ask() + x.judge();
    }

    /** What can be reached from the object: objects with their fields, arrays with their elements. */
    private static void count(HandedLens lens) throws IllegalAccessException {
        objects = 0;
        cells = 0;
        Set<Object> seen = Collections.newSetFromMap(new IdentityHashMap<>());
        Deque<Object> open = new ArrayDeque<>();
        reach(lens, seen, open);
        while (!open.isEmpty()) {
            Object next = open.pop();
            objects++;
            if (next.getClass().isArray()) {
                countArray(next, seen, open);
            } else {
                countFields(next, seen, open);
            }
        }
    }

    private static void reach(Object next, Set<Object> seen, Deque<Object> open) {
        if (next != null && seen.add(next)) {
            open.push(next);
        }
    }

    private static void countArray(Object array, Set<Object> seen, Deque<Object> open) {
        int length = Array.getLength(array);
        cells += length;
        for (int i = 0; i < length && !array.getClass().getComponentType().isPrimitive(); i++) {
            reach(Array.get(array, i), seen, open);
        }
    }

    private static void countFields(Object object, Set<Object> seen, Deque<Object> open) throws IllegalAccessException {
        for (Field field : object.getClass().getDeclaredFields()) {
            if (!Modifier.isStatic(field.getModifiers())) {
                cells++;
                field.setAccessible(true);
                if (!field.getType().isPrimitive()) {
                    reach(field.get(object), seen, open);
                }
            }
        }
    }
}
