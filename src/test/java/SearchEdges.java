/** Promises 30 to 35 and TIMETABLES: each sentence that names a boundary case, a test of its own. */
final class SearchEdges {
    private static final int NONE = SpanTimetable.NONE;
    private static final String TWO = "period 10;event a 4;event b 4;";

    private SearchEdges() {
    }

    private static void equal(String what, Object due, Object got) {
        Kit.equal(what, due, got);
    }

    private static String shares(SpanTimetable x, int amount) {
        StringBuilder text = new StringBuilder();
        for (int span = 0; span < x.spans(); span++) {
            text.append(span == 0 ? "" : " ").append(x.share(span, amount));
        }
        return text.toString();
    }

    /** Spans from a to b with the given weights. */
    private static SpanTimetable weighted(int... weights) {
        StringBuilder text = new StringBuilder(TWO);
        for (int weight : weights) {
            text.append("span a b 0 9 ").append(weight).append(";");
        }
        return Kit.made(text.toString());
    }

    // ---- promise 30

    static void promise30WithoutEventsOneTimetableIsGood() {
        equal("isSolvable", true, new SpanTimetable().isSolvable());
    }

    static void promise30OneEventIsGood() {
        equal("isSolvable", true, Kit.made("period 5;event a 4;").isSolvable());
    }

    static void promise30WithoutSpansEachTimetableIsGood() {
        equal("isSolvable", true, Kit.made(Texts.SIX).isSolvable());
    }

    static void promise30TightIsNotSolvable() {
        SpanTimetable x = Kit.made(Texts.CROWD);
        equal("isTight", true, x.isTight());
        equal("isSolvable", false, x.isSolvable());
    }

    static void promise30NotTightIsNotSolvable() {
        equal("isSolvable", false, Kit.made(TWO + "span a b 1 1;span a b 2 2;").isSolvable());
    }

    static void promise30BrokenNowIsSolvable() {
        SpanTimetable x = Kit.made(TWO + "span a b 1 1;");
        equal("broken", 1, x.broken());
        equal("isSolvable", true, x.isSolvable());
    }

    static void promise30OnlyTheLastTimesAreGood() {
        String text = "period 24;event a 0;event b 0;event c 0;event d 0;event e 0;event f 0;";
        equal("isSolvable", true, Kit.made(text + "span a b 23 23;span a c 23 23;span a d 23 23;span a e 23 23;span a f 23 23;")
                .isSolvable());
    }

    static void promise30NothingChanges() {
        Kit.unchanged(() -> Kit.lived(Texts.TRIANGLE), "isSolvable of none", SpanTimetable::isSolvable);
        Kit.unchanged(() -> Kit.lived(Texts.LOOSE), "isSolvable of some", SpanTimetable::isSolvable);
    }

    // ---- promise 31

    static void promise31WithoutEventsItIs0() {
        equal("leastCost", 0, new SpanTimetable().leastCost());
    }

    static void promise31WithoutSpansItIs0() {
        equal("leastCost", 0, Kit.made(Texts.SIX).leastCost());
    }

    static void promise31WeightsOf0() {
        equal("leastCost", 0, Kit.made(TWO + "span a b 3 3 0;span b a 0 9 0;").leastCost());
    }

    static void promise31GreatestLeastCost() {
        String spans = "span a b 1 24 20;".repeat(7) + "span b a 0 23 20;".repeat(7);
        // Slacks s and (24 - 1 - s): 23 together, whatever the times are.
        equal("leastCost", 7 * 20 * 23, Kit.made("period 24;event a 5;event b 5;" + spans).leastCost());
    }

    static void promise31CostsThatNoTimetableAvoidsCountOnce() {
        String both = "span c d 1 9 20;span d c 1 9 20;";
        String six = "period 10;event a 0;event b 0;event c 0;event d 0;event e 0;event f 0;";
        // The slacks between c and d are 8 together; b at 9, its last time, saves the 1 that b at 0 costs.
        equal("leastCost", 8 * 20, Kit.made(six + both + "span a b 9 18 1;").leastCost());
        equal("leastCost", 8 * 20, Kit.made(six + both + "span a f 9 18 1;").leastCost());
    }

    static void promise31LastTimeOfThePeriodIsTheCheapest() {
        SpanTimetable x = Kit.made("period 24;event a 0;event b 0;event c 0;event d 0;span a c 23 46 5;span a d 0 23 7;");
        equal("leastCost", 0, x.leastCost());
        x.cheapen();
        equal("times", "0 0 23 0", Kit.times(x));
    }

    static void promise31OnlyGoodTimetablesCount() {
        SpanTimetable x = Kit.made(TWO + "span a b 0 9 9;span a b 7 8 0;");
        equal("cost of a broken one", 0, x.cost());
        equal("leastCost", 63, x.leastCost());
    }

    static void promise31Event0KeepsItsTimeButCostsDoNotTell() {
        SpanTimetable x = Kit.made(Texts.LOOSE);
        for (int by = 0; by < 10; by++) {
            equal("leastCost", 7, x.leastCost());
            x.shift(1);
        }
    }

    static void promise31NothingChanges() {
        Kit.unchanged(() -> Kit.lived(Texts.LOOSE), "leastCost", SpanTimetable::leastCost);
    }

    // ---- promise 32

    static void promise32TimeIs0ToPeriodMinus1() {
        SpanTimetable x = Kit.made(TWO + "span a b 0 9 3;");
        equal("costIf(1, 0)", 18, x.costIf(1, 0));
        equal("costIf(1, 9)", 15, x.costIf(1, 9));
        equal("costIf(0, 0)", 12, x.costIf(0, 0));
        equal("costIf(0, 9)", 15, x.costIf(0, 9));
    }

    static void promise32TimeThatTheEventHas() {
        SpanTimetable x = Kit.made(Texts.TRIANGLE);
        equal("costIf(2, 7)", 9, x.costIf(2, 7));
    }

    static void promise32LastOfSixEvents() {
        equal("costIf(5, 3)", 39, Kit.made(Texts.FULL).costIf(5, 3));
    }

    static void promise32BrokenSpansCount() {
        equal("costIf(1, 0)", 36, Kit.made(TWO + "span a b 2 3 9;").costIf(1, 0));
    }

    static void promise32NothingChanges() {
        Kit.unchanged(() -> Kit.lived(Texts.TRIANGLE), "costIf", x -> x.costIf(1, 9));
    }

    // ---- promise 33

    static void promise33AsFarAsHigh() {
        equal("all", 9, Kit.made(TWO + "span a b 0 9;").canRaise(0));
        equal("all of a period of 24", 23, Kit.made("period 24;event a 0;event b 0;span a b 0 23;").canRaise(0));
        equal("of a period of 2", 1, Kit.made("period 2;event a 0;event b 0;span a b 0 1;").canRaise(0));
    }

    static void promise33HighIsLow() {
        equal("canRaise", 0, Kit.made(TWO + "span a b 3 3;").canRaise(0));
    }

    static void promise33LowIs48() {
        equal("up to HIGH", 9, Kit.made(TWO + "span a b 48 57;").canRaise(0));
        equal("another span", 3, Kit.made(TWO + "span a b 45 50;span a b 1 8;").canRaise(0));
    }

    static void promise33OneLessThanHigh() {
        equal("canRaise", 6, Kit.made(TWO + "span a b 2 9;span a b 0 8;").canRaise(0));
    }

    static void promise33NotAtAll() {
        equal("canRaise", 0, Kit.made(TWO + "span a b 2 9;span a b 2 2;").canRaise(0));
    }

    static void promise33HighStays() {
        // With LOW 3 and HIGH 12, raised to 12: only 12, which is 2.
        equal("round the period", 9, Kit.made(TWO + "span a b 3 12;span a b 0 2;").canRaise(0));
        equal("short of it", 8, Kit.made(TWO + "span a b 3 12;span a b 0 1;").canRaise(0));
    }

    static void promise33NoneIfNoTimetableIsGood() {
        equal("not tight", NONE, Kit.made(Texts.TRIANGLE).canRaise(0));
        equal("tight", NONE, Kit.made(Texts.CROWD).canRaise(9));
        equal("HIGH is LOW", NONE, Kit.made(TWO + "span a b 1 1;span a b 2 2;").canRaise(0));
    }

    static void promise33FirstAndLastSpan() {
        SpanTimetable x = Kit.made(Texts.FULL);
        equal("canRaise(0)", 3, x.canRaise(0));
        equal("canRaise(13)", 0, x.canRaise(13));
    }

    static void promise33NothingChanges() {
        Kit.unchanged(() -> Kit.lived(Texts.LOOSE), "canRaise", x -> x.canRaise(3));
        Kit.unchanged(() -> Kit.lived(Texts.TRIANGLE), "canRaise of none", x -> x.canRaise(3));
    }

    // ---- promise 34

    static void promise34NotIfATimetableIsGood() {
        SpanTimetable x = Kit.made(Texts.LOOSE);
        for (int span = 0; span < 4; span++) {
            equal("isCritical(" + span + ")", false, x.isCritical(span));
        }
    }

    static void promise34EachOfTwoThatExcludeOneAnother() {
        SpanTimetable x = Kit.made(TWO + "span a b 1 1;span a b 2 2;span a b 0 9;");
        equal("the first", true, x.isCritical(0));
        equal("the second", true, x.isCritical(1));
        equal("one that does not matter", false, x.isCritical(2));
    }

    static void promise34NotIfThereIsNoneWithoutItEither() {
        SpanTimetable x = Kit.made(TWO + "span a b 1 1;span a b 2 2;span a b 3 3;");
        for (int span = 0; span < 3; span++) {
            equal("isCritical(" + span + ")", false, x.isCritical(span));
        }
    }

    static void promise34LastOfFourteenSpans() {
        SpanTimetable x = Kit.made(Texts.SIX + "span a b 0 0;".repeat(13) + "span a b 1 1;");
        equal("isCritical(13)", true, x.isCritical(13));
        equal("isCritical(12)", false, x.isCritical(12));
    }

    static void promise34NothingChanges() {
        Kit.unchanged(() -> Kit.lived(Texts.TRIANGLE), "isCritical", x -> x.isCritical(3));
        Kit.unchanged(() -> Kit.lived(Texts.TRIANGLE), "isCritical of no critical one", x -> x.isCritical(0));
    }

    // ---- promise 35

    static void promise35AmountOf0() {
        equal("shares", "0 0 0", shares(weighted(1, 2, 3), 0));
    }

    static void promise35AmountOf999() {
        equal("shares", "999", shares(weighted(20), 999));
        equal("shares", "500 499", shares(weighted(20, 20), 999));
        equal("shares", "72 72 72 72 72 71 71 71 71 71 71 71 71 71",
                shares(weighted(20, 20, 20, 20, 20, 20, 20, 20, 20, 20, 20, 20, 20, 20), 999));
    }

    static void promise35SumOf0() {
        equal("shares", "0 0", shares(weighted(0, 0), 999));
        equal("shares", "0", shares(weighted(0), 0));
    }

    static void promise35SumOf1() {
        equal("shares", "0 999", shares(weighted(0, 1), 999));
        equal("shares", "1", shares(weighted(1), 1));
    }

    static void promise35WeightOf0GetsNothing() {
        equal("shares", "0 1 1 0", shares(weighted(0, 7, 7, 0), 2));
        equal("shares", "0 1 0", shares(weighted(0, 7, 7), 1));
    }

    static void promise35NothingIsLeft() {
        equal("shares", "2 4 6", shares(weighted(1, 2, 3), 12));
    }

    static void promise35RestGoesToTheGreatestRemainders() {
        // 10 * 2 / 7 is 2 (6 left), 10 * 1 / 7 is 1 (3 left), 10 * 4 / 7 is 5 (5 left)
        equal("shares", "3 1 6", shares(weighted(2, 1, 4), 10));
    }

    static void promise35EqualRemaindersGoToTheSmallerNumbers() {
        equal("shares", "1 1 0", shares(weighted(1, 1, 1), 2));
        equal("shares", "1 0 0", shares(weighted(1, 1, 1), 1));
        // Remainders 1, 3, 1 of 5, then 2, 1, 2.
        equal("shares", "0 1 0", shares(weighted(1, 3, 1), 1));
        equal("shares", "1 1 0", shares(weighted(1, 3, 1), 2));
    }

    static void promise35AllButOneGetOneMore() {
        equal("shares", "1 1 1 1 1 1 1 1 1 1 1 1 1 0", shares(weighted(1, 1, 1, 1, 1, 1, 1, 1, 1, 1, 1, 1, 1, 1), 13));
    }

    static void promise35SlackOfTheTimetableDoesNotMatter() {
        SpanTimetable x = weighted(2, 1);
        String before = shares(x, 10);
        x.move(1, 9);
        equal("shares", before, shares(x, 10));
    }

    static void promise35NothingChanges() {
        Kit.unchanged(() -> Kit.lived(Texts.TRIANGLE), "share", x -> x.share(1, 999));
    }
}
