import java.util.function.BiConsumer;
import java.util.function.Consumer;
import java.util.function.Supplier;

/**
 * Each call that the document refuses, a test of its own: it throws the exception that its promise
 * names, and leaves an object that nothing tells from one that was not called.
 */
final class RefusedCalls {
    private static final String INDEX = "IndexOutOfBoundsException";
    private static final String ARGUMENT = "IllegalArgumentException";
    private static final String NOTHING_THERE = "NoSuchElementException";
    private static final String STATE = "IllegalStateException";
    private static final int LEAST = Integer.MIN_VALUE;
    private static final int MOST = Integer.MAX_VALUE;

    // Of the triangle: three events, four spans, two cycles of three spans, a period of 10.
    private static final int[] NO_EVENTS = {-1, 3, 5, 6, LEAST, MOST};
    private static final int[] NO_SPANS = {-1, 4, 13, 14, LEAST, MOST};
    private static final int[] NO_CYCLES = {-1, 2, 13, 14, LEAST, MOST};
    private static final int[] NO_STEPS = {-1, 3, 5, 6, LEAST, MOST};
    private static final int[] NO_TIMES = {-1, 10, 23, 24, LEAST, MOST};
    private static final int[] NO_WEIGHTS = {-1, 21, LEAST, MOST};
    private static final int[] NO_LOWS = {-1, 49, LEAST, MOST};
    private static final int[] NO_HIGHS_BEHIND_4 = {3, 14, -1, LEAST, MOST};

    private RefusedCalls() {
    }

    static void runAll() {
        texts();
        times();
        spans();
        durations();
        differences();
        cycles();
        searches();
        moves();
        spanEdits();
        addedSpans();
        periods();
        output();
    }

    private static SpanTimetable triangle() {
        return Kit.lived(Texts.TRIANGLE);
    }

    private static SpanTimetable empty() {
        return Kit.lived("");
    }

    private static SpanTimetable full() {
        return Kit.lived(Texts.FULL);
    }

    private static SpanTimetable crowd() {
        return Kit.lived(Texts.CROWD);
    }

    private static void refused(String exception, String what, Supplier<SpanTimetable> maker, Consumer<SpanTimetable> call) {
        Kit.begin();
        Kit.refused(maker, exception, what, call);
        Kit.end("refused: " + what);
    }

    /** The call of the triangle is refused with each of the numbers, for which its text has a #. */
    private static void refusedWith(int[] numbers, String exception, String what, BiConsumer<SpanTimetable, Integer> call) {
        for (int number : numbers) {
            refused(exception, what.replace("#", "" + number), RefusedCalls::triangle, x -> call.accept(x, number));
        }
    }

    private static void texts() {
        int[] noLengths = {-1, 21, 500, 501, LEAST, MOST};
        refusedWith(noLengths, ARGUMENT, "load(#) of 20 bytes", (x, length) -> x.load(length));
        refusedWith(noLengths, ARGUMENT, "find(#) of 20 bytes", (x, length) -> x.find(length));
        refused(ARGUMENT, "load(1) of no bytes", SpanTimetable::new, x -> x.load(1));
        refused(ARGUMENT, "find(1) of no bytes", SpanTimetable::new, x -> x.find(1));
        Supplier<SpanTimetable> filled = () -> {
            SpanTimetable x = triangle();
            // One feed of 20 bytes was made.
            for (int k = 1; k < 25; k++) {
                x.feed(0x20202020, 0x20202020, 0x20202020, 0x20202020, 0x20202020);
            }
            return x;
        };
        refused(ARGUMENT, "load(501) of 500 bytes", filled, x -> x.load(501));
        refused(ARGUMENT, "find(501) of 500 bytes", filled, x -> x.find(501));
    }

    private static void times() {
        refusedWith(NO_EVENTS, INDEX, "time(#)", (x, event) -> x.time(event));
        refused(INDEX, "time(0) without events", RefusedCalls::empty, x -> x.time(0));
        refused(INDEX, "time(6) of six events", RefusedCalls::full, x -> x.time(6));
    }

    private static void spans() {
        refusedWith(NO_SPANS, INDEX, "span(#, 0)", (x, span) -> x.span(span, 0));
        refusedWith(NO_SPANS, INDEX, "span(#, 5): the index first", (x, span) -> x.span(span, 5));
        refusedWith(new int[] {-1, 5, LEAST, MOST}, ARGUMENT, "span(0, #)", (x, what) -> x.span(0, what));
        refused(INDEX, "span(0, 0) without events", RefusedCalls::empty, x -> x.span(0, 0));
        refused(INDEX, "span(14, 0) of 14 spans", RefusedCalls::full, x -> x.span(14, 0));
    }

    private static void durations() {
        refusedWith(NO_SPANS, INDEX, "duration(#)", (x, span) -> x.duration(span));
        refusedWith(NO_SPANS, INDEX, "slack(#)", (x, span) -> x.slack(span));
        refusedWith(NO_SPANS, INDEX, "isKept(#)", (x, span) -> x.isKept(span));
        refused(INDEX, "duration(0) without events", RefusedCalls::empty, x -> x.duration(0));
        refused(INDEX, "slack(0) without events", RefusedCalls::empty, x -> x.slack(0));
        refused(INDEX, "isKept(0) without events", RefusedCalls::empty, x -> x.isKept(0));
        refused(INDEX, "duration(14) of 14 spans", RefusedCalls::full, x -> x.duration(14));
        refused(INDEX, "slack(14) of 14 spans", RefusedCalls::full, x -> x.slack(14));
        refused(INDEX, "isKept(14) of 14 spans", RefusedCalls::full, x -> x.isKept(14));
        refused(NOTHING_THERE, "firstBroken() without events", RefusedCalls::empty, x -> x.firstBroken());
        refused(NOTHING_THERE, "firstBroken() of 14 kept spans", RefusedCalls::full, x -> x.firstBroken());
    }

    private static void differences() {
        refusedWith(NO_EVENTS, INDEX, "allowed(#, 0, false)", (x, event) -> x.allowed(event, 0, false));
        refusedWith(NO_EVENTS, INDEX, "allowed(0, #, true)", (x, event) -> x.allowed(0, event, true));
        refusedWith(NO_EVENTS, INDEX, "allowed(#, #, true) of the same event", (x, event) -> x.allowed(event, event, true));
        refusedWith(NO_EVENTS, INDEX, "isAllowed(#, 0, 0)", (x, event) -> x.isAllowed(event, 0, 0));
        refusedWith(NO_EVENTS, INDEX, "isAllowed(0, #, 10): the index first", (x, event) -> x.isAllowed(0, event, 10));
        refusedWith(NO_EVENTS, INDEX, "isAllowed(#, #, 0) of the same event", (x, event) -> x.isAllowed(event, event, 0));
        refusedWith(NO_TIMES, ARGUMENT, "isAllowed(0, 1, #)", (x, difference) -> x.isAllowed(0, 1, difference));
        refusedWith(NO_TIMES, ARGUMENT, "isAllowed(2, 2, #)", (x, difference) -> x.isAllowed(2, 2, difference));
        refused(INDEX, "allowed(0, 0, false) without events", RefusedCalls::empty, x -> x.allowed(0, 0, false));
        refused(INDEX, "isAllowed(0, 0, 0) without events", RefusedCalls::empty, x -> x.isAllowed(0, 0, 0));
        refused(INDEX, "allowed(6, 6, true) of six events", RefusedCalls::full, x -> x.allowed(6, 6, true));
        refusedWith(NO_SPANS, INDEX, "bound(#, false): the index first", (x, span) -> x.bound(span, false));
        refusedWith(NO_SPANS, INDEX, "bound(#, true): the index first", (x, span) -> x.bound(span, true));
        refusedWith(new int[] {0, 3}, NOTHING_THERE, "bound(#, false) of no difference", (x, span) -> x.bound(span, false));
        refusedWith(new int[] {0, 3}, NOTHING_THERE, "bound(#, true) of no difference", (x, span) -> x.bound(span, true));
        refused(INDEX, "bound(0, true) without events", RefusedCalls::empty, x -> x.bound(0, true));
        refused(INDEX, "bound(14, true) of 14 spans", RefusedCalls::full, x -> x.bound(14, true));
    }

    private static void cycles() {
        refusedWith(NO_CYCLES, INDEX, "cycleLength(#)", (x, cycle) -> x.cycleLength(cycle));
        refusedWith(NO_CYCLES, INDEX, "cycleSpan(#, 0)", (x, cycle) -> x.cycleSpan(cycle, 0));
        refusedWith(NO_STEPS, INDEX, "cycleSpan(1, #)", (x, step) -> x.cycleSpan(1, step));
        refusedWith(NO_CYCLES, INDEX, "isForward(#, 0)", (x, cycle) -> x.isForward(cycle, 0));
        refusedWith(NO_STEPS, INDEX, "isForward(1, #)", (x, step) -> x.isForward(1, step));
        refusedWith(NO_CYCLES, INDEX, "turns(#, 0)", (x, cycle) -> x.turns(cycle, 0));
        refusedWith(NO_CYCLES, INDEX, "turns(#, 3): the index first", (x, cycle) -> x.turns(cycle, 3));
        refusedWith(new int[] {-1, 3, LEAST, MOST}, ARGUMENT, "turns(0, #)", (x, what) -> x.turns(0, what));
        refused(INDEX, "cycleLength(0) without events", RefusedCalls::empty, x -> x.cycleLength(0));
        refused(INDEX, "cycleSpan(0, 0) without events", RefusedCalls::empty, x -> x.cycleSpan(0, 0));
        refused(INDEX, "isForward(0, 0) without events", RefusedCalls::empty, x -> x.isForward(0, 0));
        refused(INDEX, "turns(0, 0) without events", RefusedCalls::empty, x -> x.turns(0, 0));
        Supplier<SpanTimetable> thirteen = () -> Kit.lived(Texts.SIX + "span a b 0 0;".repeat(14));
        refused(INDEX, "cycleLength(13) of 13 cycles", thirteen, x -> x.cycleLength(13));
        refused(INDEX, "cycleSpan(12, 2) of two steps", thirteen, x -> x.cycleSpan(12, 2));
        refused(INDEX, "turns(13, 2) of 13 cycles", thirteen, x -> x.turns(13, 2));
        refused(NOTHING_THERE, "firstImpossible() without events", RefusedCalls::empty, x -> x.firstImpossible());
        refused(NOTHING_THERE, "firstImpossible() of 13 possible cycles", thirteen, x -> x.firstImpossible());
    }

    private static void searches() {
        refused(NOTHING_THERE, "leastCost() of no difference", RefusedCalls::triangle, x -> x.leastCost());
        refused(NOTHING_THERE, "leastCost() of tight differences", RefusedCalls::crowd, x -> x.leastCost());
        refusedWith(NO_EVENTS, INDEX, "costIf(#, 0)", (x, event) -> x.costIf(event, 0));
        refusedWith(NO_EVENTS, INDEX, "costIf(#, 10): the index first", (x, event) -> x.costIf(event, 10));
        refusedWith(NO_TIMES, ARGUMENT, "costIf(2, #)", (x, time) -> x.costIf(2, time));
        refused(INDEX, "costIf(0, 0) without events", RefusedCalls::empty, x -> x.costIf(0, 0));
        refusedWith(NO_SPANS, INDEX, "canRaise(#)", (x, span) -> x.canRaise(span));
        refused(INDEX, "canRaise(0) without events", RefusedCalls::empty, x -> x.canRaise(0));
        refused(INDEX, "canRaise(14) of 14 spans", RefusedCalls::full, x -> x.canRaise(14));
        refusedWith(NO_SPANS, INDEX, "isCritical(#)", (x, span) -> x.isCritical(span));
        refused(INDEX, "isCritical(0) without events", RefusedCalls::empty, x -> x.isCritical(0));
        refused(INDEX, "isCritical(14) of 14 spans", RefusedCalls::full, x -> x.isCritical(14));
        refusedWith(NO_SPANS, INDEX, "share(#, 0)", (x, span) -> x.share(span, 0));
        refusedWith(NO_SPANS, INDEX, "share(#, 1000): the index first", (x, span) -> x.share(span, 1000));
        refusedWith(new int[] {-1, 1000, LEAST, MOST}, ARGUMENT, "share(0, #)", (x, amount) -> x.share(0, amount));
        refused(ARGUMENT, "share(0, 1000) of WEIGHTs of 0", () -> Kit.lived(Texts.THREE + "span a b 0 0 0;"), x -> x.share(0, 1000));
        refused(INDEX, "share(0, 0) without events", RefusedCalls::empty, x -> x.share(0, 0));
        refused(INDEX, "share(14, 0) of 14 spans", RefusedCalls::full, x -> x.share(14, 0));
    }

    private static void moves() {
        refusedWith(NO_EVENTS, INDEX, "move(#, 0)", (x, event) -> x.move(event, 0));
        refusedWith(NO_EVENTS, INDEX, "move(#, 10): the index first", (x, event) -> x.move(event, 10));
        refusedWith(NO_TIMES, ARGUMENT, "move(2, #)", (x, time) -> x.move(2, time));
        refused(INDEX, "move(0, 0) without events", RefusedCalls::empty, x -> x.move(0, 0));
        refused(INDEX, "move(6, 0) of six events", RefusedCalls::full, x -> x.move(6, 0));
        refused(NOTHING_THERE, "solve() of no difference", RefusedCalls::triangle, x -> x.solve());
        refused(NOTHING_THERE, "solve() of tight differences", RefusedCalls::crowd, x -> x.solve());
        refused(NOTHING_THERE, "cheapen() of no difference", RefusedCalls::triangle, x -> x.cheapen());
        refused(NOTHING_THERE, "cheapen() of tight differences", RefusedCalls::crowd, x -> x.cheapen());
    }

    private static void spanEdits() {
        refusedWith(NO_SPANS, INDEX, "setSpan(#, 0, 0)", (x, span) -> x.setSpan(span, 0, 0));
        refusedWith(NO_SPANS, INDEX, "setSpan(#, 49, -1): the index first", (x, span) -> x.setSpan(span, 49, -1));
        refusedWith(NO_LOWS, ARGUMENT, "setSpan(0, #, #)", (x, low) -> x.setSpan(0, low, low));
        refusedWith(NO_LOWS, ARGUMENT, "setSpan(3, #, 5)", (x, low) -> x.setSpan(3, low, 5));
        refusedWith(NO_HIGHS_BEHIND_4, ARGUMENT, "setSpan(0, 4, #)", (x, high) -> x.setSpan(0, 4, high));
        refusedWith(new int[] {47, 58}, ARGUMENT, "setSpan(0, 48, #)", (x, high) -> x.setSpan(0, 48, high));
        refusedWith(new int[] {-1, 10}, ARGUMENT, "setSpan(0, 0, #)", (x, high) -> x.setSpan(0, 0, high));
        refused(INDEX, "setSpan(0, 0, 0) without events", RefusedCalls::empty, x -> x.setSpan(0, 0, 0));
        refused(INDEX, "setSpan(14, 0, 0) of 14 spans", RefusedCalls::full, x -> x.setSpan(14, 0, 0));
        refusedWith(NO_SPANS, INDEX, "setWeight(#, 0)", (x, span) -> x.setWeight(span, 0));
        refusedWith(NO_SPANS, INDEX, "setWeight(#, 21): the index first", (x, span) -> x.setWeight(span, 21));
        refusedWith(NO_WEIGHTS, ARGUMENT, "setWeight(0, #)", (x, weight) -> x.setWeight(0, weight));
        refused(INDEX, "setWeight(0, 0) without events", RefusedCalls::empty, x -> x.setWeight(0, 0));
        refused(INDEX, "setWeight(14, 0) of 14 spans", RefusedCalls::full, x -> x.setWeight(14, 0));
        refusedWith(NO_SPANS, INDEX, "removeSpan(#)", (x, span) -> x.removeSpan(span));
        refused(INDEX, "removeSpan(0) without events", RefusedCalls::empty, x -> x.removeSpan(0));
        refused(INDEX, "removeSpan(0) without spans", () -> Kit.lived(Texts.SIX), x -> x.removeSpan(0));
        refused(INDEX, "removeSpan(14) of 14 spans", RefusedCalls::full, x -> x.removeSpan(14));
    }

    private static void addedSpans() {
        refusedWith(NO_EVENTS, INDEX, "addSpan(#, 0, 1, 1, 1)", (x, event) -> x.addSpan(event, 0, 1, 1, 1));
        refusedWith(NO_EVENTS, INDEX, "addSpan(0, #, 1, 1, 1)", (x, event) -> x.addSpan(0, event, 1, 1, 1));
        refusedWith(NO_EVENTS, INDEX, "addSpan(#, #, 49, 0, 21): the index first", (x, event) -> x.addSpan(event, event, 49, 0, 21));
        refusedWith(NO_LOWS, ARGUMENT, "addSpan(0, 1, #, #, 1)", (x, low) -> x.addSpan(0, 1, low, low, 1));
        refusedWith(NO_HIGHS_BEHIND_4, ARGUMENT, "addSpan(0, 1, 4, #, 1)", (x, high) -> x.addSpan(0, 1, 4, high, 1));
        refusedWith(new int[] {47, 58}, ARGUMENT, "addSpan(0, 1, 48, #, 1)", (x, high) -> x.addSpan(0, 1, 48, high, 1));
        refusedWith(NO_WEIGHTS, ARGUMENT, "addSpan(0, 1, 4, 4, #)", (x, weight) -> x.addSpan(0, 1, 4, 4, weight));
        refusedWith(new int[] {0, 1, 2}, ARGUMENT, "addSpan(#, #, 4, 4, 1) of the same event", (x, event) -> x.addSpan(event, event, 4, 4, 1));
        refused(INDEX, "addSpan(0, 0, 0, 0, 0) without events", RefusedCalls::empty, x -> x.addSpan(0, 0, 0, 0, 0));
        refused(INDEX, "addSpan(0, 6, 0, 0, 0) of six events", RefusedCalls::full, x -> x.addSpan(0, 6, 0, 0, 0));
        refused(STATE, "addSpan(0, 1, 0, 0, 0) of 14 spans", RefusedCalls::full, x -> x.addSpan(0, 1, 0, 0, 0));
        refused(ARGUMENT, "addSpan(0, 1, 49, 49, 0) of 14 spans: the state last", RefusedCalls::full, x -> x.addSpan(0, 1, 49, 49, 0));
        refused(ARGUMENT, "addSpan(0, 1, 4, 8, 0) of 14 spans: the state last", RefusedCalls::full, x -> x.addSpan(0, 1, 4, 8, 0));
        refused(ARGUMENT, "addSpan(0, 1, 4, 4, 21) of 14 spans: the state last", RefusedCalls::full, x -> x.addSpan(0, 1, 4, 4, 21));
        refused(ARGUMENT, "addSpan(1, 1, 4, 4, 0) of 14 spans: the state last", RefusedCalls::full, x -> x.addSpan(1, 1, 4, 4, 0));
        refused(INDEX, "addSpan(6, 0, 4, 4, 0) of 14 spans: the index first", RefusedCalls::full, x -> x.addSpan(6, 0, 4, 4, 0));
    }

    private static void periods() {
        refusedWith(new int[] {1, 25, 0, -1, LEAST, MOST}, ARGUMENT, "setPeriod(#)", (x, period) -> x.setPeriod(period));
        refusedWith(new int[] {2}, STATE, "setPeriod(#) with a longer span", (x, period) -> x.setPeriod(period));
        Supplier<SpanTimetable> wide = () -> Kit.lived("period 24;event a 0;event b 0;span b a 48 71;");
        refused(STATE, "setPeriod(23) with HIGH at LOW + 23", wide, x -> x.setPeriod(23));
        refused(ARGUMENT, "setPeriod(1) with HIGH at LOW + 23: the state last", wide, x -> x.setPeriod(1));
        refused(STATE, "setPeriod(3) of 14 spans", RefusedCalls::full, x -> x.setPeriod(3));
    }

    private static void output() {
        refusedWith(NO_CYCLES, INDEX, "writeCycle(#)", (x, cycle) -> x.writeCycle(cycle));
        refused(INDEX, "writeCycle(0) without events", RefusedCalls::empty, x -> x.writeCycle(0));
        // Of the 14 characters a=0 b=3 c=7 !3
        refusedWith(new int[] {-1, 14, 159, 160, LEAST, MOST}, INDEX, "written(#)", (x, k) -> x.written(k));
        refused(INDEX, "written(0) of an empty output", RefusedCalls::empty, x -> x.written(0));
        refused(INDEX, "written(0) when nothing was written", () -> Kit.made(Texts.TRIANGLE), x -> x.written(0));
    }
}
