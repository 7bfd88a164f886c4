/** Promises 36 to 45: each sentence that names a boundary case, a test of its own. */
final class EditEdges {
    private static final int NONE = SpanTimetable.NONE;
    private static final int LEAST = Integer.MIN_VALUE;
    private static final int MOST = Integer.MAX_VALUE;
    private static final String TWO = "period 10;event a 4;event b 4;";

    private EditEdges() {
    }

    private static void equal(String what, Object due, Object got) {
        Kit.equal(what, due, got);
    }

    // ---- promise 36

    static void promise36TimeIs0ToPeriodMinus1() {
        SpanTimetable x = Kit.made(Texts.THREE);
        x.move(0, 9);
        x.move(1, 0);
        equal("times", "9 0 7", Kit.times(x));
        SpanTimetable y = Kit.made("period 24;event a 0;");
        y.move(0, 23);
        equal("of a period of 24", "23", Kit.times(y));
    }

    static void promise36FirstAndLastEvent() {
        SpanTimetable x = Kit.made(Texts.SIX);
        x.move(0, 3);
        x.move(5, 2);
        equal("times", "3 0 0 0 0 2", Kit.times(x));
    }

    static void promise36NoneAndAllBroken() {
        SpanTimetable x = Kit.made(Texts.SIX + "span a b 1 3;".repeat(14));
        equal("none", 0, x.move(0, 1));
        equal("all", 14, x.move(1, 1));
        equal("without spans", 0, Kit.made(Texts.SIX).move(5, 3));
    }

    static void promise36TimeThatTheEventHas() {
        SpanTimetable x = Kit.made(Texts.TRIANGLE);
        equal("broken", 1, x.move(1, 3));
        equal("times", "0 3 7", Kit.times(x));
    }

    // ---- promise 37

    static void promise37ShiftBy0() {
        SpanTimetable x = Kit.made(Texts.THREE);
        equal("shift", 0, x.shift(0));
        equal("times", "0 3 7", Kit.times(x));
    }

    static void promise37ShiftByThePeriod() {
        SpanTimetable x = Kit.made(Texts.THREE);
        equal("shift(10)", 0, x.shift(10));
        equal("shift(-10)", 0, x.shift(-10));
        equal("times", "0 3 7", Kit.times(x));
    }

    static void promise37ShiftWrapsRoundThePeriod() {
        SpanTimetable x = Kit.made(Texts.THREE);
        equal("shift(-1)", 9, x.shift(-1));
        equal("times", "9 2 6", Kit.times(x));
        equal("shift(1)", 0, x.shift(1));
        equal("times", "0 3 7", Kit.times(x));
        equal("shift(9)", 9, x.shift(9));
        equal("times", "9 2 6", Kit.times(x));
    }

    static void promise37ShiftByTheGreatestNumber() {
        SpanTimetable x = Kit.made(Texts.THREE);
        equal("shift", 7, x.shift(MOST));
        equal("times", "7 0 4", Kit.times(x));
        equal("of a period of 24", (int) ((23L + MOST) % 24), Kit.made("period 24;event a 23;").shift(MOST));
    }

    static void promise37ShiftByTheLeastNumber() {
        SpanTimetable x = Kit.made(Texts.THREE);
        equal("shift", 2, x.shift(LEAST));
        equal("times", "2 5 9", Kit.times(x));
        equal("of a period of 24", (int) Math.floorMod(23L + LEAST, 24L), Kit.made("period 24;event a 23;").shift(LEAST));
    }

    static void promise37WithoutEvents() {
        SpanTimetable x = new SpanTimetable();
        equal("shift", NONE, x.shift(5));
        equal("shift by 0", NONE, x.shift(0));
    }

    static void promise37SixEvents() {
        SpanTimetable x = Kit.made(Texts.SIX);
        equal("shift", 3, x.shift(-1));
        equal("times", "3 3 3 3 3 3", Kit.times(x));
    }

    // ---- promise 38

    static void promise38LowIs0To48() {
        SpanTimetable x = Kit.made(Texts.TRIANGLE);
        equal("LOW 0", 3, x.setSpan(0, 0, 5));
        equal("LOW 48", 53, x.setSpan(0, 48, 50));
        equal("LOW", 48, x.span(0, 2));
    }

    static void promise38HighIsLowToLowPlusPeriodMinus1() {
        SpanTimetable x = Kit.made(Texts.TRIANGLE);
        equal("HIGH is LOW", 3, x.setSpan(0, 3, 3));
        equal("HIGH", 3, x.span(0, 3));
        equal("HIGH is LOW + 9", 3, x.setSpan(0, 3, 12));
        equal("HIGH", 12, x.span(0, 3));
        equal("the greatest HIGH", 53, x.setSpan(0, 48, 57));
        equal("HIGH", 57, x.span(0, 3));
    }

    static void promise38GreatestHighOfAll() {
        SpanTimetable x = Kit.made("period 24;event a 0;event b 23;span a b 0 0;");
        equal("duration", 71, x.setSpan(0, 48, 71));
    }

    static void promise38DurationOfABrokenSpan() {
        SpanTimetable x = Kit.made(Texts.TRIANGLE);
        equal("duration", 13, x.setSpan(0, 4, 5));
        equal("isKept", false, x.isKept(0));
    }

    static void promise38OnlyLowAndHighChange() {
        SpanTimetable x = Kit.made(Texts.TRIANGLE);
        x.setSpan(3, 1, 2);
        equal("spans", "0 1 2 4 2; 1 2 3 5 1; 2 0 1 3 3; 0 2 1 2 0", Kit.spans(x));
        equal("times", "0 3 7", Kit.times(x));
    }

    // ---- promise 39

    static void promise39WeightIs0To20() {
        SpanTimetable x = Kit.made(Texts.TRIANGLE);
        equal("setWeight(0, 0)", 2, x.setWeight(0, 0));
        equal("setWeight(0, 20)", 0, x.setWeight(0, 20));
        equal("setWeight(0, 20)", 20, x.setWeight(0, 20));
    }

    static void promise39LastOfFourteenSpans() {
        SpanTimetable x = Kit.made(Texts.FULL);
        equal("setWeight(13, 9)", 1, x.setWeight(13, 9));
        equal("span(13, 4)", 9, x.span(13, 4));
        equal("span(12, 4)", 1, x.span(12, 4));
    }

    // ---- promise 40

    static void promise40FirstSpan() {
        SpanTimetable x = Kit.made(Texts.THREE);
        equal("addSpan", 0, x.addSpan(1, 0, 2, 3, 4));
        equal("spans", "1 0 2 3 4", Kit.spans(x));
    }

    static void promise40FourteenthSpan() {
        SpanTimetable x = Kit.made(Texts.SIX + "span a b 0 0;".repeat(13));
        equal("addSpan", 13, x.addSpan(4, 5, 1, 2, 3));
        equal("span(13, 0)", 4, x.span(13, 0));
        equal("spans", 14, x.spans());
    }

    static void promise40LowIs0To48() {
        SpanTimetable x = Kit.made(Texts.THREE);
        x.addSpan(0, 1, 0, 0, 1);
        x.addSpan(0, 1, 48, 48, 1);
        equal("spans", "0 1 0 0 1; 0 1 48 48 1", Kit.spans(x));
    }

    static void promise40HighIsLowToLowPlusPeriodMinus1() {
        SpanTimetable x = Kit.made(Texts.THREE);
        x.addSpan(0, 1, 7, 7, 1);
        x.addSpan(0, 1, 7, 16, 1);
        x.addSpan(0, 1, 48, 57, 1);
        equal("spans", "0 1 7 7 1; 0 1 7 16 1; 0 1 48 57 1", Kit.spans(x));
    }

    static void promise40WeightIs0To20() {
        SpanTimetable x = Kit.made(Texts.THREE);
        x.addSpan(0, 1, 7, 7, 0);
        x.addSpan(0, 1, 7, 7, 20);
        equal("spans", "0 1 7 7 0; 0 1 7 7 20", Kit.spans(x));
    }

    static void promise40FirstAndLastEventInBothDirections() {
        SpanTimetable x = Kit.made(Texts.SIX);
        x.addSpan(0, 5, 1, 1, 1);
        x.addSpan(5, 0, 1, 1, 1);
        equal("spans", "0 5 1 1 1; 5 0 1 1 1", Kit.spans(x));
    }

    // ---- promise 41

    static void promise41OnlySpan() {
        SpanTimetable x = Kit.made(Texts.THREE + "span a b 1 1;");
        equal("removeSpan", 0, x.removeSpan(0));
        equal("spans", 0, x.spans());
        equal("cost", 0, x.cost());
    }

    static void promise41FirstOfFourteen() {
        SpanTimetable x = Kit.made(Texts.FULL);
        equal("removeSpan", 13, x.removeSpan(0));
        equal("the last one has a smaller number", 1, x.span(12, 0));
        equal("span(13, 0)", "IndexOutOfBoundsException", Kit.thrown(() -> x.span(13, 0)));
    }

    static void promise41LastOfFourteen() {
        SpanTimetable x = Kit.made(Texts.FULL);
        equal("removeSpan", 13, x.removeSpan(13));
        equal("the others keep their numbers", 0, x.span(12, 0));
    }

    static void promise41OneInTheMiddle() {
        SpanTimetable x = Kit.made(Texts.TRIANGLE);
        equal("removeSpan", 3, x.removeSpan(1));
        equal("spans", "0 1 2 4 2; 2 0 1 3 3; 0 2 5 6 0", Kit.spans(x));
    }

    static void promise41RemovedOneMakesPlaceForAnother() {
        SpanTimetable x = Kit.made(Texts.FULL);
        x.removeSpan(5);
        equal("addSpan", 13, x.addSpan(2, 3, 1, 1, 1));
    }

    // ---- promise 42

    static void promise42PeriodIs2To24() {
        SpanTimetable x = Kit.made("period 10;event a 9;");
        equal("setPeriod(2)", 10, x.setPeriod(2));
        equal("times", "1", Kit.times(x));
        equal("setPeriod(24)", 2, x.setPeriod(24));
        equal("period", 24, x.period());
    }

    static void promise42TimesAreTakenModuloThePeriod() {
        SpanTimetable x = Kit.made("period 24;event a 0;event b 6;event c 7;event d 8;event e 14;event f 23;");
        x.setPeriod(7);
        equal("times", "0 6 0 1 0 2", Kit.times(x));
        x.setPeriod(24);
        equal("times stay so", "0 6 0 1 0 2", Kit.times(x));
    }

    static void promise42PeriodThatItHas() {
        SpanTimetable x = Kit.made(Texts.TRIANGLE);
        equal("setPeriod(10)", 10, x.setPeriod(10));
        equal("times", "0 3 7", Kit.times(x));
    }

    static void promise42HighMayBeLowPlusPeriodMinus1() {
        SpanTimetable x = Kit.made(Texts.THREE + "span a b 48 51;span a b 3 5;");
        equal("setPeriod(4)", 10, x.setPeriod(4));
        equal("setPeriod(3)", "IllegalStateException", Kit.thrown(() -> x.setPeriod(3)));
        equal("period", 4, x.period());
    }

    static void promise42LastSpanCanForbidIt() {
        SpanTimetable x = Kit.made(Texts.SIX + "span a b 0 2;".repeat(13) + "span a b 0 3;");
        equal("setPeriod(3)", "IllegalStateException", Kit.thrown(() -> x.setPeriod(3)));
        x.removeSpan(13);
        equal("setPeriod(3) without it", 4, x.setPeriod(3));
    }

    static void promise42SpansStay() {
        SpanTimetable x = Kit.made(Texts.TRIANGLE);
        x.setPeriod(3);
        equal("spans", Texts.TRIANGLE_SPANS, Kit.spans(x));
    }

    static void promise42WithoutEvents() {
        SpanTimetable x = new SpanTimetable();
        equal("setPeriod(2)", 12, x.setPeriod(2));
        equal("setPeriod(24)", 2, x.setPeriod(24));
    }

    // ---- promise 43

    static void promise43WithoutEvents() {
        equal("solve", 0, new SpanTimetable().solve());
    }

    static void promise43OneEventKeepsItsTime() {
        SpanTimetable x = Kit.made("period 5;event a 4;");
        equal("solve", 0, x.solve());
        equal("times", "4", Kit.times(x));
    }

    static void promise43WithoutSpansAllButEvent0GoTo0() {
        SpanTimetable x = Kit.made("period 24;event a 23;event b 23;event c 1;event d 2;event e 3;event f 4;");
        equal("solve", 0, x.solve());
        equal("times", "23 0 0 0 0 0", Kit.times(x));
    }

    static void promise43TimetablesAreOrderedByTheSmallerEventFirst() {
        // c is 5 behind b: b at 0 and c at 5 comes before b at 5 and c at 0.
        SpanTimetable x = Kit.made("period 10;event a 9;event b 5;event c 0;span b c 5 5;");
        x.solve();
        equal("times", "9 0 5", Kit.times(x));
    }

    static void promise43FirstIsNotTheCheapest() {
        SpanTimetable x = Kit.made(TWO + "span a b 1 9 1;");
        equal("solve", 5, x.solve());
        equal("times", "4 0", Kit.times(x));
    }

    static void promise43GoodOneThatIsNotTheFirst() {
        SpanTimetable x = Kit.made("period 10;event a 4;event b 9;span a b 1 9 1;");
        equal("broken", 0, x.broken());
        equal("solve", 5, x.solve());
        equal("times", "4 0", Kit.times(x));
    }

    static void promise43OnlyTheLastTimesAreGood() {
        SpanTimetable x = Kit.made("period 24;event a 0;event b 0;event c 0;event d 0;event e 0;event f 0;"
                + "span a b 23 23;span a c 23 23;span a d 23 23;span a e 23 23;span a f 23 23;");
        equal("solve", 0, x.solve());
        equal("times", "0 23 23 23 23 23", Kit.times(x));
    }

    // ---- promise 44

    static void promise44WithoutEvents() {
        equal("cheapen", 0, new SpanTimetable().cheapen());
    }

    static void promise44OneEventKeepsItsTime() {
        SpanTimetable x = Kit.made("period 5;event a 4;");
        equal("cheapen", 0, x.cheapen());
        equal("times", "4", Kit.times(x));
    }

    static void promise44WithoutWeightsTheFirstGoodOne() {
        SpanTimetable x = Kit.made(TWO + "span a b 1 9 0;");
        equal("cheapen", 0, x.cheapen());
        equal("times", "4 0", Kit.times(x));
    }

    static void promise44CheapestIsTheLastOne() {
        SpanTimetable x = Kit.made("period 24;event a 0;event b 0;span a b 0 23 1;span a b 23 46 2;");
        // At 23 the slacks are 23 and 0; at 0 they are 0 and 1.
        equal("cheapen", 2, x.cheapen());
        x.setWeight(1, 20);
        x.setWeight(0, 0);
        equal("cheapen", 0, x.cheapen());
        equal("times", "0 23", Kit.times(x));
    }

    static void promise44FirstOfSeveral() {
        // b between a and c: each time of b costs the same.
        SpanTimetable x = Kit.made("period 10;event a 8;event b 4;event c 4;span a c 5 5 1;span a b 0 5 1;span b c 0 5 1;");
        equal("cheapen", 5, x.cheapen());
        equal("times", "8 0 3", Kit.times(x));
    }

    static void promise44BrokenOneWouldBeCheaper() {
        SpanTimetable x = Kit.made(TWO + "span a b 0 9 9;span a b 7 8 0;");
        equal("cheapen", 63, x.cheapen());
        equal("times", "4 1", Kit.times(x));
    }

    // ---- promise 45

    static void promise45NoMoves() {
        equal("without events", 0, new SpanTimetable().improve());
        equal("without spans", 0, Kit.made(Texts.SIX).improve());
        equal("nothing is better", 0, Kit.made(TWO + "span a b 0 0 20;").improve());
    }

    static void promise45EqualCostIsNoImprovement() {
        SpanTimetable x = Kit.made("period 10;event a 4;event b 7;span a b 0 9 0;");
        equal("improve", 0, x.improve());
        equal("times", "4 7", Kit.times(x));
    }

    static void promise45CostSmallerBy1IsAnImprovement() {
        SpanTimetable x = Kit.made("period 10;event a 4;event b 5;span a b 0 9 1;");
        equal("improve", 1, x.improve());
        equal("times", "5 5", Kit.times(x));
    }

    static void promise45FewerBrokenThoughAGreaterCost() {
        SpanTimetable x = Kit.made(TWO + "span a b 0 9 20;span a b 5 9 1;");
        equal("cost", 5, x.cost());
        equal("improve", 1, x.improve());
        equal("times", "9 4", Kit.times(x));
        equal("cost", 100, x.cost());
    }

    static void promise45SmallestCostOfSeveral() {
        // b at 6 keeps the broken span as well as a at 2 does, and costs less.
        SpanTimetable x = Kit.made("period 10;event a 4;event b 4;event c 4;span a b 2 2 1;span a c 0 9 1;");
        equal("improve", 1, x.improve());
        equal("times", "4 6 4", Kit.times(x));
    }

    static void promise45SmallestEventOfSeveral() {
        SpanTimetable x = Kit.made("period 6;event a 4;event b 3;span a b 2 2;");
        equal("improve", 1, x.improve());
        equal("times", "1 3", Kit.times(x));
    }

    static void promise45SmallestTimeOfSeveral() {
        SpanTimetable x = Kit.made("period 10;event a 4;event b 4;span b a 2 8 0;");
        equal("improve", 1, x.improve());
        equal("times", "0 4", Kit.times(x));
    }

    static void promise45SeveralMoves() {
        SpanTimetable x = Kit.made("period 10;event a 0;event b 0;event c 0;event d 0;event e 0;event f 0;"
                + "span a b 1 1;span b c 1 1;span c d 1 1;span d e 1 1;span e f 1 1;");
        int moves = x.improve();
        equal("broken", 0, x.broken());
        equal("more than one move", true, moves > 1);
        equal("nothing is left", 0, x.improve());
    }

    static void promise45Event0IsMovedToo() {
        SpanTimetable x = Kit.made("period 10;event a 4;event b 4;event c 4;span a b 1 1;span a c 1 1;");
        equal("improve", 1, x.improve());
        equal("times", "3 4 4", Kit.times(x));
    }

    static void promise45EndsWhereNoSingleMoveHelps() {
        SpanTimetable x = Kit.made(Texts.CROWD);
        int moves = x.improve();
        equal("moves", true, moves > 0);
        equal("broken", 1, x.broken());
    }
}
