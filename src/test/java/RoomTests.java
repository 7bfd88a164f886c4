import java.lang.management.ManagementFactory;
import java.lang.reflect.Array;
import java.lang.reflect.Field;
import java.lang.reflect.Modifier;
import java.util.ArrayDeque;
import java.util.Collections;
import java.util.Deque;
import java.util.IdentityHashMap;
import java.util.Set;

/** The room that all calls of one run share: what an object takes, and what its calls make. */
public final class RoomTests {
    private static final int MOST_OBJECTS = 600_000;
    private static final int MOST_ELEMENTS = 7_300_000;
    private static final int MOST_CALLS = 512;

    private RoomTests() {
    }

    public static void main(String[] args) throws IllegalAccessException {
        Kit.runAll(RoomTests.class);
        Kit.exit();
    }

    /** The objects and arrays that can be reached, and their fields and elements. */
    private record Room(int objects, int elements) {
        static Room of(Object start) throws IllegalAccessException {
            Set<Object> seen = Collections.newSetFromMap(new IdentityHashMap<>());
            Deque<Object> open = new ArrayDeque<>();
            int elements = 0;
            seen.add(start);
            open.add(start);
            while (!open.isEmpty()) {
                Object object = open.remove();
                elements += object.getClass().isArray() ? walkArray(object, seen, open) : walkFields(object, seen, open);
            }
            return new Room(seen.size(), elements);
        }

        private static int walkArray(Object array, Set<Object> seen, Deque<Object> open) {
            int length = Array.getLength(array);
            if (!array.getClass().getComponentType().isPrimitive()) {
                for (int k = 0; k < length; k++) {
                    note(Array.get(array, k), seen, open);
                }
            }
            return length;
        }

        private static int walkFields(Object object, Set<Object> seen, Deque<Object> open) throws IllegalAccessException {
            int fields = 0;
            for (Field field : object.getClass().getDeclaredFields()) {
                if (!Modifier.isStatic(field.getModifiers())) {
                    fields++;
                    field.setAccessible(true);
                    if (!field.getType().isPrimitive()) {
                        note(field.get(object), seen, open);
                    }
                }
            }
            return fields;
        }

        private static void note(Object object, Set<Object> seen, Deque<Object> open) {
            if (object != null && seen.add(object)) {
                open.add(object);
            }
        }
    }

    /** Calls each method of the face once at least, with what it does not refuse. */
    private static void callAll(SpanTimetable x, int[] words) {
        for (int k = 0; k < words.length; k += 5) {
            x.feed(words[k], words[k + 1], words[k + 2], words[k + 3], words[k + 4]);
        }
        x.load(4 * words.length);
        x.feed(words[0], words[1], words[2], words[3], words[4]);
        x.find(3);
        int told = tellAll(x);
        x.move(1, 2);
        x.shift(told);
        x.setSpan(0, 1, 4);
        x.setWeight(0, 7);
        x.addSpan(0, 2, 1, 9, 3);
        x.removeSpan(4);
        x.setPeriod(11);
        x.improve();
        x.solve();
        x.cheapen();
        x.undo();
        x.write();
        x.writeCycle(0);
        x.written(0);
    }

    private static int tellAll(SpanTimetable x) {
        int sum = x.errorKind() + x.errorPosition() + x.period() + x.events() + x.spans() + x.time(0) + x.span(0, 2);
        sum += x.duration(0) + x.slack(0) + (x.isKept(0) ? 1 : 0) + x.broken() + x.cost() + (int) x.meanSlack();
        sum += x.allowed(0, 1, true) + (x.isAllowed(0, 1, 2) ? 1 : 0) + x.rounds() + (x.isTight() ? 1 : 0);
        sum += x.bound(0, true) + x.cycles() + x.cycleLength(0) + x.cycleSpan(0, 0) + (x.isForward(0, 0) ? 1 : 0);
        sum += x.turns(0, 0) + (x.isSolvable() ? 1 : 0) + x.leastCost() + x.costIf(0, 1) + x.canRaise(0);
        return sum + (x.isCritical(0) ? 1 : 0) + x.share(0, 9) + x.firstBroken();
    }

    private static int[] words(String text) {
        byte[] bytes = Texts.stretched(text, (text.length() + 19) / 20 * 20).getBytes();
        int[] words = new int[bytes.length / 4];
        for (int k = 0; k < words.length; k++) {
            words[k] = Kit.word(bytes, 4 * k);
        }
        return words;
    }

    private static int[] brokenNowButSolvable() {
        return words(Texts.LOOSE.replace("event b 3;", "event b 5;"));
    }

    static void callsOfAllNewObjectsOfARunFitTheRoom() throws IllegalAccessException {
        Room room = Room.of(new SpanTimetable());
        // Even if each call of a run were made on an object of its own.
        Kit.equal("objects of " + room, true, room.objects * MOST_CALLS < MOST_OBJECTS);
        Kit.equal("elements of " + room, true, room.elements * MOST_CALLS < MOST_ELEMENTS);
    }

    static void objectKeepsItsRoom() throws IllegalAccessException {
        SpanTimetable x = new SpanTimetable();
        Room before = Room.of(x);
        int[] words = brokenNowButSolvable();
        int emptyText = 1;
        for (int run = 0; run < 8; run++) {
            callAll(x, words);
        }
        // The reader's first text, which was empty, has given way to the buffer.
        Kit.equal("objects after many calls", before.objects - emptyText, Room.of(x).objects);
        Kit.equal("elements after many calls", before.elements, Room.of(x).elements);
    }

    static void callsMakeNoObjects() {
        if (!(ManagementFactory.getThreadMXBean() instanceof com.sun.management.ThreadMXBean made)) {
            return;
        }
        SpanTimetable x = new SpanTimetable();
        int[] words = brokenNowButSolvable();
        callAll(x, words);
        long least = Long.MAX_VALUE;
        // So few runs that the machine does not yet leave out objects that it sees to be needless; the
        // least of them, as the machine itself makes some bytes in one or the other.
        for (int run = 0; run < 6; run++) {
            long before = made.getCurrentThreadAllocatedBytes();
            callAll(x, words);
            least = Math.min(least, made.getCurrentThreadAllocatedBytes() - before);
        }
        Kit.equal("bytes made by all calls", 0L, least);
    }
}
