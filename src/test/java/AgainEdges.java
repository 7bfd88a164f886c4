import java.util.function.Supplier;

/** What was told, asked or searched before leaves nothing in later answers: a test for each way. */
final class AgainEdges {
    // All of it is greater than in the texts below: events, spans, cycles, turns, costs, period.
    private static final String LARGE = "period 24;event ab 1;event bc 5;event cd 9;event de 13;event ef 17;event fg 23;"
            + "span ab bc 40 50 20;span bc cd 40 50 20;span cd de 40 50 20;span de ef 40 50 20;span ef fg 40 50 20;"
            + "span fg ab 40 62 20;span ab cd 0 22 20;span de ef 16 38 20;span ef de 30 52 20;span ef fg 16 38 20;";
    private static final String IMPOSSIBLE = "span a b 9 9;span a c 4 4 20;span c b 8 9 20;";

    private AgainEdges() {
    }

    private static void equal(String what, Object due, Object got) {
        Kit.equal(what, due, got);
    }

    private static String answer(Supplier<Object> call) {
        Object[] got = new Object[1];
        String thrown = Kit.thrown(() -> got[0] = call.get());
        return " " + (got[0] == null ? thrown : got[0]);
    }

    /** What an object answers without any change. */
    private static String answers(SpanTimetable x) {
        StringBuilder text = new StringBuilder(Kit.spans(x)).append(", times ").append(Kit.times(x));
        text.append(answer(x::broken)).append(answer(x::firstBroken)).append(answer(x::cost)).append(answer(x::meanSlack));
        text.append(answer(x::rounds)).append(answer(x::isTight)).append(answer(x::cycles)).append(answer(x::firstImpossible));
        text.append(answer(x::isSolvable)).append(answer(x::leastCost)).append(answer(() -> x.costIf(0, 1)));
        int spans = x.spans();
        for (int span = 0; span < spans; span++) {
            int it = span;
            text.append(", span ").append(span).append(answer(() -> x.bound(it, false))).append(answer(() -> x.bound(it, true)));
            text.append(answer(() -> x.canRaise(it))).append(answer(() -> x.isCritical(it))).append(answer(() -> x.share(it, 99)));
        }
        int cycles = x.cycles();
        for (int cycle = 0; cycle < cycles; cycle++) {
            text.append(", cycle ").append(x.cycleLength(cycle)).append(" ").append(x.turns(cycle, 0));
            text.append(" ").append(x.turns(cycle, 1)).append(" ").append(x.turns(cycle, 2));
        }
        return text.append(answer(() -> x.allowed(0, 1, false))).append(answer(() -> x.allowed(0, 1, true))).toString();
    }

    private static void asAFreshOne(SpanTimetable used, String text) {
        SpanTimetable fresh = Kit.made(text);
        equal("answers of " + text, answers(fresh), answers(used));
        equal("solve", answer(fresh::solve), answer(used::solve));
        equal("cheapen", answer(fresh::cheapen), answer(used::cheapen));
        equal("times", Kit.times(fresh), Kit.times(used));
        equal("write", fresh.write(), used.write());
        equal("output", Kit.output(fresh), Kit.output(used));
    }

    private static SpanTimetable large() {
        SpanTimetable x = Kit.made(LARGE);
        x.isSolvable();
        x.leastCost();
        x.canRaise(0);
        x.rounds();
        x.cycles();
        x.write();
        return x;
    }

    static void askedTwice() {
        SpanTimetable x = Kit.made(Texts.LOOSE);
        String before = answers(x);
        equal("answers", before, answers(x));
        equal("answers once more", before, answers(x));
    }

    static void roundsAskedTwice() {
        SpanTimetable x = Kit.made(Texts.THREE + "span a b 2 2;span b c 3 4;");
        equal("rounds", 2, x.rounds());
        equal("rounds again", 2, x.rounds());
        x.isTight();
        x.isSolvable();
        equal("rounds after other calls", 2, x.rounds());
    }

    static void smallerTextBehindALargerOne() {
        SpanTimetable x = large();
        Kit.load(x, Texts.LOOSE);
        asAFreshOne(x, Texts.LOOSE);
    }

    static void unsolvableTextBehindASolvableOne() {
        SpanTimetable x = large();
        Kit.load(x, Texts.TRIANGLE);
        asAFreshOne(x, Texts.TRIANGLE);
    }

    static void oneEventBehindALargerText() {
        SpanTimetable x = large();
        Kit.load(x, "period 2;event a 1;");
        equal("leastCost", 0, x.leastCost());
        equal("solve", 0, x.solve());
        equal("times", "1", Kit.times(x));
        equal("rounds", 1, x.rounds());
        equal("firstImpossible", "NoSuchElementException", Kit.thrown(() -> x.firstImpossible()));
    }

    static void emptyTextBehindALargerOne() {
        SpanTimetable x = large();
        x.load(0);
        x.write();
        equal("all", Kit.everything(new SpanTimetable()), Kit.everything(x));
    }

    static void impossibleCyclesThatAreRemoved() {
        SpanTimetable x = Kit.made(Texts.LOOSE + IMPOSSIBLE);
        equal("firstImpossible", 2, x.firstImpossible());
        for (int span = 6; span > 3; span--) {
            x.isSolvable();
            x.removeSpan(span);
        }
        asAFreshOne(x, Texts.LOOSE);
    }

    static void impossibleCyclesThatAreUndone() {
        SpanTimetable x = Kit.made(Texts.LOOSE);
        x.addSpan(0, 1, 9, 9, 20);
        equal("firstImpossible", 2, x.firstImpossible());
        x.undo();
        asAFreshOne(x, Texts.LOOSE);
    }

    static void periodThatWasSetBack() {
        SpanTimetable x = Kit.made(Texts.LOOSE);
        x.setPeriod(24);
        x.isSolvable();
        x.rounds();
        x.setPeriod(10);
        asAFreshOne(x, Texts.LOOSE);
    }

    static void illegalTextBehindALegalOne() {
        SpanTimetable x = Kit.made(Texts.LOOSE);
        Kit.load(x, LARGE + "?");
        asAFreshOne(x, Texts.LOOSE);
    }
}
