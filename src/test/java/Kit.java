import java.lang.reflect.InvocationTargetException;
import java.lang.reflect.Method;
import java.lang.reflect.Modifier;
import java.nio.charset.StandardCharsets;
import java.util.ArrayList;
import java.util.Arrays;
import java.util.Comparator;
import java.util.List;
import java.util.NoSuchElementException;
import java.util.function.Consumer;
import java.util.function.Supplier;

/** What the tests share: texts in and out, the whole visible state, and the report. */
final class Kit {
    private static int failed = 0;
    private static boolean right = true;

    private Kit() {
    }

    // ---- the report

    static void begin() {
        right = true;
    }

    static void end(String name) {
        System.out.println((right ? "ok " : "FAILED: ") + name);
        failed += right ? 0 : 1;
    }

    static void fail(String what) {
        right = false;
        System.out.println("  " + what);
    }

    static void equal(String what, Object due, Object got) {
        if (!due.equals(got)) {
            fail(what + ": due is " + due + ", answered was " + got);
        }
    }

    static void exit() {
        System.exit(failed == 0 ? 0 : 1);
    }

    /** Runs the tests of a suite: its methods without parameters that are not private. */
    static void runAll(Class<?> suite) throws IllegalAccessException {
        List<Method> tests = new ArrayList<>();
        for (Method method : suite.getDeclaredMethods()) {
            if (!Modifier.isPrivate(method.getModifiers()) && method.getParameterCount() == 0 && !method.isSynthetic()) {
                tests.add(method);
            }
        }
        tests.sort(Comparator.comparing(Method::getName));
        for (Method test : tests) {
            begin();
            try {
                test.invoke(null);
            } catch (InvocationTargetException wrapper) {
                fail("threw " + wrapper.getCause() + " at " + wrapper.getCause().getStackTrace()[0]);
            }
            end(suite.getSimpleName() + "." + test.getName());
        }
    }

    /** The name of what the call throws, "nothing" if nothing. */
    static String thrown(Runnable call) {
        try {
            call.run();
            return "nothing";
        } catch (RuntimeException thrown) {
            return thrown.getClass().getSimpleName();
        }
    }

    /** The call must throw the exception and change nothing. */
    static void refused(SpanTimetable x, String exception, String what, Runnable call) {
        String before = state(x);
        equal(what + " throws", exception, thrown(call));
        equal(what + " changes nothing", before, state(x));
    }

    /** The call must throw the exception, and leave an object that nothing tells from an untouched twin. */
    static void refused(Supplier<SpanTimetable> maker, String exception, String what, Consumer<SpanTimetable> call) {
        SpanTimetable x = maker.get();
        equal(what + " throws", exception, thrown(() -> call.accept(x)));
        equal(what + " changes nothing", everything(maker.get()), everything(x));
    }

    /** The call must not throw, and leave an object that nothing tells from an untouched twin. */
    static void unchanged(Supplier<SpanTimetable> maker, String what, Consumer<SpanTimetable> call) {
        refused(maker, "nothing", what, call);
    }

    // ---- texts

    static int feed(SpanTimetable x, byte[] bytes) {
        byte[] filled = Arrays.copyOf(bytes, (bytes.length + 19) / 20 * 20);
        Arrays.fill(filled, bytes.length, filled.length, (byte) ' ');
        int count = 0;
        for (int k = 0; k < filled.length; k += 20) {
            count = x.feed(word(filled, k), word(filled, k + 4), word(filled, k + 8),
                    word(filled, k + 12), word(filled, k + 16));
        }
        return count;
    }

    static int word(byte[] bytes, int k) {
        return (bytes[k] & 255) << 24 | (bytes[k + 1] & 255) << 16 | (bytes[k + 2] & 255) << 8 | bytes[k + 3] & 255;
    }

    static int load(SpanTimetable x, String text) {
        feed(x, text.getBytes(StandardCharsets.ISO_8859_1));
        return x.load(text.length());
    }

    static int find(SpanTimetable x, String name) {
        feed(x, name.getBytes(StandardCharsets.ISO_8859_1));
        return x.find(name.length());
    }

    static SpanTimetable made(String text) {
        SpanTimetable x = new SpanTimetable();
        if (load(x, text) < 0) {
            throw new IllegalStateException("the test's text is not legal: " + text);
        }
        return x;
    }

    static String output(SpanTimetable x) {
        StringBuilder text = new StringBuilder();
        try {
            for (int k = 0;; k++) {
                text.append(x.written(k));
            }
        } catch (IndexOutOfBoundsException end) {
            return text.toString();
        }
    }

    // ---- the state

    static String times(SpanTimetable x) {
        StringBuilder text = new StringBuilder();
        int events = x.events();
        for (int event = 0; event < events; event++) {
            text.append(event == 0 ? "" : " ").append(x.time(event));
        }
        return text.toString();
    }

    static String spans(SpanTimetable x) {
        StringBuilder text = new StringBuilder();
        // Asked for once: an object is used for 512 calls at the most.
        int spans = x.spans();
        for (int span = 0; span < spans; span++) {
            text.append(span == 0 ? "" : "; ");
            for (int what = 0; what < 5; what++) {
                text.append(what == 0 ? "" : " ").append(x.span(span, what));
            }
        }
        return text.toString();
    }

    static String state(SpanTimetable x) {
        StringBuilder text = new StringBuilder();
        text.append("period ").append(x.period()).append(", times ").append(times(x));
        text.append(", spans ").append(spans(x)).append(", cost ").append(x.cost());
        text.append(", error ").append(x.errorKind()).append(" at ").append(x.errorPosition());
        text.append(", output ").append(output(x));
        return text.toString();
    }

    /** An object that has all that a call could change: an error, edits, an output, bytes in the buffer. */
    static SpanTimetable lived(String text) {
        SpanTimetable x = made(text);
        load(x, "period 25;");
        x.shift(1);
        x.setPeriod(x.period());
        x.shift(-1);
        x.write();
        feed(x, "period 7;event q 3;".getBytes(StandardCharsets.ISO_8859_1));
        return x;
    }

    /** All that can be told of an object, at the price of its edits and its buffer. */
    static String everything(SpanTimetable x) {
        StringBuilder text = new StringBuilder(state(x));
        int left = x.undo();
        for (int k = 0; k < 12 && left >= 0; k++) {
            text.append(", before ").append(left).append(" edits: period ").append(x.period());
            text.append(", times ").append(times(x)).append(", spans ").append(spans(x));
            left = x.undo();
        }
        x.write();
        text.append(", written ").append(output(x)).append(", buffer ").append(loadAll(x));
        text.append(": ").append(state(x));
        return text.toString();
    }

    /** Loads as many bytes as the buffer has; the number, and what load answered. */
    private static String loadAll(SpanTimetable x) {
        for (int length = 500; length >= 0; length -= 20) {
            try {
                return length + " loaded as " + x.load(length);
            } catch (IllegalArgumentException tooLong) {
                continue;
            }
        }
        return "none";
    }

    static int leastCost(SpanTimetable x) {
        try {
            return x.leastCost();
        } catch (NoSuchElementException none) {
            return SpanTimetable.NONE;
        }
    }
}
