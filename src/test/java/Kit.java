import java.nio.charset.StandardCharsets;
import java.util.Arrays;
import java.util.NoSuchElementException;

/** What the tests share: texts in and out, the whole visible state, and the report. */
final class Kit {
    private static int failed = 0;
    private static boolean right = true;

    private Kit() {
    }

    // ---- the report

    static void begin() {
        right = true;
    }

    static void end(String name) {
        System.out.println((right ? "ok " : "FAILED: ") + name);
        failed += right ? 0 : 1;
    }

    static void fail(String what) {
        right = false;
        System.out.println("  " + what);
    }

    static void equal(String what, Object due, Object got) {
        if (!due.equals(got)) {
            fail(what + ": due is " + due + ", answered was " + got);
        }
    }

    static void exit() {
        System.exit(failed == 0 ? 0 : 1);
    }

    /** The name of what the call throws, "nothing" if nothing. */
    static String thrown(Runnable call) {
        try {
            call.run();
            return "nothing";
        } catch (RuntimeException thrown) {
            return thrown.getClass().getSimpleName();
        }
    }

    /** The call must throw the exception and change nothing. */
    static void refused(SpanTimetable x, String exception, String what, Runnable call) {
        String before = state(x);
        equal(what + " throws", exception, thrown(call));
        equal(what + " changes nothing", before, state(x));
    }

    // ---- texts

    static int feed(SpanTimetable x, byte[] bytes) {
        byte[] filled = Arrays.copyOf(bytes, (bytes.length + 19) / 20 * 20);
        Arrays.fill(filled, bytes.length, filled.length, (byte) ' ');
        int count = 0;
        for (int k = 0; k < filled.length; k += 20) {
            count = x.feed(word(filled, k), word(filled, k + 4), word(filled, k + 8),
                    word(filled, k + 12), word(filled, k + 16));
        }
        return count;
    }

    static int word(byte[] bytes, int k) {
        return (bytes[k] & 255) << 24 | (bytes[k + 1] & 255) << 16 | (bytes[k + 2] & 255) << 8 | bytes[k + 3] & 255;
    }

    static int load(SpanTimetable x, String text) {
        feed(x, text.getBytes(StandardCharsets.ISO_8859_1));
        return x.load(text.length());
    }

    static int find(SpanTimetable x, String name) {
        feed(x, name.getBytes(StandardCharsets.ISO_8859_1));
        return x.find(name.length());
    }

    static SpanTimetable made(String text) {
        SpanTimetable x = new SpanTimetable();
        if (load(x, text) < 0) {
            throw new IllegalStateException("the test's text is not legal: " + text);
        }
        return x;
    }

    static String output(SpanTimetable x) {
        StringBuilder text = new StringBuilder();
        try {
            for (int k = 0;; k++) {
                text.append(x.written(k));
            }
        } catch (IndexOutOfBoundsException end) {
            return text.toString();
        }
    }

    // ---- the state

    static String times(SpanTimetable x) {
        StringBuilder text = new StringBuilder();
        for (int event = 0; event < x.events(); event++) {
            text.append(event == 0 ? "" : " ").append(x.time(event));
        }
        return text.toString();
    }

    static String spans(SpanTimetable x) {
        StringBuilder text = new StringBuilder();
        for (int span = 0; span < x.spans(); span++) {
            text.append(span == 0 ? "" : "; ");
            for (int what = 0; what < 5; what++) {
                text.append(what == 0 ? "" : " ").append(x.span(span, what));
            }
        }
        return text.toString();
    }

    static String state(SpanTimetable x) {
        StringBuilder text = new StringBuilder();
        text.append("period ").append(x.period()).append(", times ").append(times(x));
        text.append(", spans ").append(spans(x)).append(", cost ").append(x.cost());
        text.append(", error ").append(x.errorKind()).append(" at ").append(x.errorPosition());
        text.append(", output ").append(output(x));
        return text.toString();
    }

    static int leastCost(SpanTimetable x) {
        try {
            return x.leastCost();
        } catch (NoSuchElementException none) {
            return SpanTimetable.NONE;
        }
    }
}
