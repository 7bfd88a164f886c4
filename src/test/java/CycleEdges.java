import java.util.StringJoiner;

/** Promises 24 to 29 and CYCLES: each sentence that names a boundary case, a test of its own. */
final class CycleEdges {
    private static final String LINE = "span a b 0 0;span b c 0 0;span c d 0 0;span d e 0 0;span e f 0 0;";

    private CycleEdges() {
    }

    private static void equal(String what, Object due, Object got) {
        Kit.equal(what, due, got);
    }

    /** The spans of a cycle, each behind its sign. */
    private static String steps(SpanTimetable x, int cycle) {
        StringBuilder text = new StringBuilder();
        for (int step = 0; step < x.cycleLength(cycle); step++) {
            text.append(x.isForward(cycle, step) ? '+' : '-').append(x.cycleSpan(cycle, step));
        }
        return text.toString();
    }

    private static String allCycles(String text) {
        SpanTimetable x = Kit.made(text);
        StringJoiner cycles = new StringJoiner(" ");
        for (int cycle = 0; cycle < x.cycles(); cycle++) {
            cycles.add(steps(x, cycle));
        }
        return cycles.toString();
    }

    /** Two spans of a period of 5, the first from a to b, the second closing the cycle: its turns. */
    private static String turns(String first, String second) {
        SpanTimetable x = Kit.made("period 5;event a 0;event b 0;span a b " + first + ";span " + second + ";");
        return x.turns(0, 0) + ": " + x.turns(0, 1) + " to " + x.turns(0, 2);
    }

    // ---- promise 24

    static void promise24NoCycles() {
        equal("without events", 0, new SpanTimetable().cycles());
        equal("without spans", 0, Kit.made(Texts.SIX).cycles());
        equal("of a tree of all events", 0, Kit.made(Texts.SIX + LINE).cycles());
    }

    static void promise24ThirteenCyclesOfTwoEvents() {
        equal("cycles", 13, Kit.made(Texts.SIX + "span a b 0 0;".repeat(14)).cycles());
    }

    static void promise24NineCyclesOfSixEvents() {
        equal("cycles", 9, Kit.made(Texts.SIX + LINE + "span f a 0 0;".repeat(9)).cycles());
    }

    static void promise24WayOfTreeSpansInAnyDirection() {
        equal("joined against the spans", "+2-1+0", allCycles(Texts.SIX + "span b a 0 0;span b c 0 0;span a c 0 0;"));
        equal("joined as they go", "+2+0+1", allCycles(Texts.SIX + "span a b 0 0;span b c 0 0;span c a 0 0;"));
    }

    static void promise24SpanOfTheOtherDirectionClosesACycle() {
        equal("b to a", "+1+0", allCycles(Texts.SIX + "span a b 0 0;span b a 0 0;"));
        equal("a to b", "+1-0", allCycles(Texts.SIX + "span a b 0 0;span a b 0 0;"));
    }

    static void promise24ClosingSpanIsNoTreeSpan() {
        equal("cycles go over tree spans alone", "+1-0 +2-0 +3-0", allCycles(Texts.SIX + "span a b 0 0;".repeat(4)));
    }

    static void promise24SpanThatJoinsTwoTreesIsATreeSpan() {
        equal("cycles", "+3-0+2+1", allCycles(Texts.SIX + "span a b 0 0;span c d 0 0;span a c 0 0;span d b 0 0;"));
    }

    static void promise24CyclesFollowTheirClosingSpans() {
        equal("cycles", "+1-0 +3-2 +5-2-4-0", allCycles(Texts.SIX
                + "span a b 0 0;span a b 0 0;span c d 0 0;span c d 0 0;span b c 0 0;span a d 0 0;"));
    }

    // ---- promises 25 to 27

    static void promise25ShortestCycle() {
        equal("cycleLength", 2, Kit.made(Texts.SIX + "span a b 0 0;span a b 0 0;").cycleLength(0));
    }

    static void promise25LongestCycle() {
        equal("cycleLength", 6, Kit.made(Texts.SIX + LINE + "span f a 0 0;").cycleLength(0));
    }

    static void promise25LastOfThirteenCycles() {
        equal("cycleLength(12)", 2, Kit.made(Texts.SIX + "span a b 0 0;".repeat(14)).cycleLength(12));
    }

    static void promise26StepOf0ClosesTheCycle() {
        SpanTimetable x = Kit.made(Texts.RINGS);
        int[] due = {3, 5, 6, 7};
        for (int cycle = 0; cycle < 4; cycle++) {
            equal("cycleSpan(" + cycle + ", 0)", due[cycle], x.cycleSpan(cycle, 0));
        }
    }

    static void promise26LastStep() {
        SpanTimetable x = Kit.made(Texts.SIX + LINE + "span f a 0 0;span c a 0 0;");
        equal("the last step of the longest cycle", 4, x.cycleSpan(0, 5));
        equal("the last step of another", 1, x.cycleSpan(1, 2));
    }

    static void promise26CycleGoesFromTheSecondEventBackToTheFirst() {
        equal("f to a", "+5+0+1+2+3+4", allCycles(Texts.SIX + LINE + "span f a 0 0;"));
        equal("a to f", "+5-4-3-2-1-0", allCycles(Texts.SIX + LINE + "span a f 0 0;"));
    }

    static void promise26SpansBehindTheClosingOneDoNotMatter() {
        equal("cycles", "+2-1-0", allCycles(Texts.SIX + "span a b 0 0;span b c 0 0;span a c 0 0;span c d 0 0;span d e 0 0;"));
    }

    static void promise27ClosingSpanIsGoneForward() {
        SpanTimetable x = Kit.made(Texts.RINGS);
        for (int cycle = 0; cycle < 4; cycle++) {
            equal("isForward(" + cycle + ", 0)", true, x.isForward(cycle, 0));
        }
    }

    static void promise27TreeSpanGoneFromItsSecondEventIsBackward() {
        SpanTimetable x = Kit.made(Texts.SIX + "span a b 0 0;span c b 0 0;span a c 0 0;");
        equal("cycle", "+2+1-0", steps(x, 0));
    }

    // ---- promise 28

    static void promise28TurnsOf0() {
        equal("turns", "0: 0 to 0", turns("0 0", "a b 0 0"));
    }

    static void promise28TurnsBelow0() {
        equal("turns", "-9: -9 to -9", turns("45 45", "a b 0 0"));
    }

    static void promise28LeastTurnsAreRoundedUp() {
        equal("10 of 5", "2: 2 to 2", turns("0 0", "a b 10 10"));
        equal("11 of 5", "3: 3 to 3", turns("0 0", "a b 11 15"));
        equal("14 of 5", "3: 3 to 3", turns("0 0", "a b 14 15"));
        equal("1 of 5", "1: 1 to 1", turns("0 0", "a b 1 5"));
        equal("-1 of 5", "0: 0 to 0", turns("0 1", "a b 0 4"));
        equal("-4 of 5", "0: 0 to 0", turns("0 4", "a b 0 4"));
        equal("0 of 5", "0: 0 to 0", turns("0 0", "a b 0 4"));
    }

    static void promise28LeastTurnsBelow0AreRoundedUp() {
        equal("-5 of 5", "-1: -1 to -1", turns("5 5", "a b 0 0"));
        equal("-6 of 5", "-2: -1 to -1", turns("6 6", "a b 0 4"));
        equal("-9 of 5", "-1: -1 to -1", turns("5 9", "a b 0 4"));
        equal("-10 of 5", "-2: -2 to -1", turns("6 10", "a b 0 4"));
    }

    static void promise28MostTurnsAreRoundedDown() {
        equal("9 of 5", "1: 1 to 1", turns("0 0", "a b 5 9"));
        equal("10 of 5", "2: 2 to 2", turns("0 0", "a b 6 10"));
        equal("4 of 5", "0: 0 to 0", turns("0 0", "a b 0 4"));
        equal("14 of 5", "2: 2 to 2", turns("0 0", "a b 10 14"));
    }

    static void promise28MostTurnsBelow0AreRoundedDown() {
        equal("-1 of 5", "-1: 0 to -1", turns("1 1", "a b 0 0"));
        equal("-5 of 5", "-1: -1 to -1", turns("5 5", "a b 0 0"));
        equal("-6 of 5", "-2: -1 to -2", turns("6 6", "a b 0 0"));
    }

    static void promise28MostTurnsOfAll() {
        String text = "period 2;event a 0;event b 1;event c 0;event d 1;event e 0;event f 1;";
        SpanTimetable x = Kit.made(text + LINE.replace("0 0", "48 49") + "span f a 48 49;");
        equal("turns", "147: 144 to 147", x.turns(0, 0) + ": " + x.turns(0, 1) + " to " + x.turns(0, 2));
    }

    static void promise28FewestTurnsOfAll() {
        String text = "period 2;event a 0;event b 1;event c 0;event d 1;event e 0;event f 1;";
        SpanTimetable x = Kit.made(text + LINE.replace("0 0", "48 49") + "span a f 0 1;");
        equal("turns", "-122: -122 to -120", x.turns(0, 0) + ": " + x.turns(0, 1) + " to " + x.turns(0, 2));
    }

    static void promise28WhatIs0To2() {
        SpanTimetable x = Kit.made("period 5;event a 0;event b 3;span a b 0 4;span b a 5 9;");
        equal("turns(0, 0)", 2, x.turns(0, 0));
        equal("turns(0, 1)", 1, x.turns(0, 1));
        equal("turns(0, 2)", 2, x.turns(0, 2));
    }

    static void promise28BrokenSpansCountWithTheirDurations() {
        equal("turns", "1: 1 to 0", turns("0 0", "a b 1 4"));
    }

    // ---- promise 29

    static void promise29EqualTurnsCanBe() {
        SpanTimetable x = Kit.made(Texts.THREE + "span a b 1 1;span a b 1 1;");
        equal("firstImpossible", "NoSuchElementException", Kit.thrown(() -> x.firstImpossible()));
    }

    static void promise29LeastTurnsGreaterBy1CannotBe() {
        equal("firstImpossible", 0, Kit.made(Texts.THREE + "span a b 1 1;span a b 2 2;").firstImpossible());
    }

    static void promise29LastOfThirteenCycles() {
        equal("firstImpossible", 12, Kit.made(Texts.SIX + "span a b 0 0;".repeat(13) + "span a b 1 3;").firstImpossible());
    }

    static void promise29FirstOfSeveral() {
        equal("firstImpossible", 1, Kit.made(Texts.SIX + "span a b 0 0;".repeat(2) + "span a b 1 3;".repeat(4)).firstImpossible());
    }

    static void promise29NoCycles() {
        equal("without events", "NoSuchElementException", Kit.thrown(() -> new SpanTimetable().firstImpossible()));
        SpanTimetable x = Kit.made(Texts.SIX + LINE);
        equal("of a tree", "NoSuchElementException", Kit.thrown(() -> x.firstImpossible()));
    }

    static void promise29EachCycleCanBeThoughNoTimetableIsGood() {
        SpanTimetable x = Kit.made(Texts.CROWD);
        equal("isSolvable", false, x.isSolvable());
        equal("firstImpossible", "NoSuchElementException", Kit.thrown(() -> x.firstImpossible()));
    }
}
