import java.nio.charset.StandardCharsets;

/** Promises 6 to 18 and DURATIONS: each sentence that names a boundary case, a test of its own. */
final class ToldEdges {
    private static final int NONE = SpanTimetable.NONE;

    private ToldEdges() {
    }

    private static void equal(String what, Object due, Object got) {
        Kit.equal(what, due, got);
    }

    /** The duration of a span from a to b, both at the given times. */
    private static int duration(int period, int timeOfA, int timeOfB, int low) {
        String text = "period " + period + ";event a " + timeOfA + ";event b " + timeOfB + ";";
        SpanTimetable x = Kit.made(text + "span a b " + low + " " + low + ";");
        equal("slack with LOW " + low + " in " + text, x.duration(0) - low, x.slack(0));
        return x.duration(0);
    }

    private static void feedText(SpanTimetable x, String text) {
        Kit.feed(x, text.getBytes(StandardCharsets.ISO_8859_1));
    }

    // ---- promises 6 to 8

    static void promise06PeriodOfAnEmptyText() {
        equal("period", 12, Kit.made("").period());
    }

    static void promise06LeastAndGreatestPeriod() {
        equal("the least", 2, Kit.made("period 2;").period());
        equal("the greatest", 24, Kit.made("period 24;").period());
    }

    static void promise07NoEventsAndSix() {
        equal("none", 0, Kit.made("").events());
        equal("one", 1, Kit.made("period 5;event a 0;").events());
        equal("six", 6, Kit.made(Texts.SIX).events());
    }

    static void promise08NoSpansAndFourteen() {
        equal("none", 0, Kit.made(Texts.SIX).spans());
        equal("fourteen", 14, Kit.made(Texts.FULL).spans());
    }

    // ---- promise 9

    static void promise09NoNameIsEmpty() {
        equal("find(0) with events", NONE, Kit.made(Texts.SIX).find(0));
        equal("find(0) without events", NONE, new SpanTimetable().find(0));
    }

    static void promise09FirstAndLastEvent() {
        equal("a", 0, Kit.find(Kit.made(Texts.SIX), "a"));
        equal("f", 5, Kit.find(Kit.made(Texts.SIX), "f"));
        equal("g", NONE, Kit.find(Kit.made(Texts.SIX), "g"));
    }

    static void promise09NameOfEightLetters() {
        SpanTimetable x = Kit.made("period 5;event abcdefgh 0;event abcdefg 0;");
        equal("eight", 0, Kit.find(x, "abcdefgh"));
        equal("seven", 1, Kit.find(x, "abcdefg"));
        equal("six", NONE, Kit.find(x, "abcdef"));
        equal("nine", NONE, Kit.find(x, "abcdefghi"));
        equal("another last letter", NONE, Kit.find(x, "abcdefgi"));
        equal("another first letter", NONE, Kit.find(x, "bbcdefgh"));
    }

    static void promise09NameHasNoBlanks() {
        SpanTimetable x = Kit.made("period 5;event a 0;");
        equal("a blank behind", NONE, Kit.find(x, "a "));
        equal("a blank before", NONE, Kit.find(x, " a"));
        equal("a semicolon", NONE, Kit.find(x, "a;"));
        equal("a great letter", NONE, Kit.find(x, "A"));
    }

    static void promise09LengthOfAllBytesIsTaken() {
        SpanTimetable x = Kit.made(Texts.SIX);
        feedText(x, "a".repeat(500));
        equal("find(500)", NONE, x.find(500));
        feedText(x, "a");
        equal("find(20)", NONE, x.find(20));
    }

    static void promise09OnlyTheFirstBytesAreTheName() {
        SpanTimetable x = Kit.made("period 5;event ab 0;event a 0;");
        feedText(x, "abab");
        equal("find(2)", 0, x.find(2));
        feedText(x, "abab");
        equal("find(1)", 1, x.find(1));
    }

    static void promise09FindEmptiesTheBuffer() {
        SpanTimetable x = Kit.made(Texts.SIX);
        feedText(x, "a");
        x.find(1);
        equal("find(1) behind a NAME found", "IllegalArgumentException", Kit.thrown(() -> x.find(1)));
        feedText(x, "x");
        x.find(1);
        equal("load(1) behind no NAME", "IllegalArgumentException", Kit.thrown(() -> x.load(1)));
        feedText(x, "x");
        x.find(0);
        equal("load(1) behind find(0)", "IllegalArgumentException", Kit.thrown(() -> x.load(1)));
    }

    static void promise09FindChangesNothingElse() {
        SpanTimetable x = Kit.lived(Texts.TRIANGLE);
        SpanTimetable y = Kit.lived(Texts.TRIANGLE);
        x.find(1);
        feedText(x, "period 7;event q 3;");
        equal("all", Kit.everything(y), Kit.everything(x));
    }

    static void promise09NamesStayWhenSpansAndPeriodChange() {
        SpanTimetable x = Kit.made("period 5;event ab 0;event cd 3;span ab cd 0 0;");
        x.removeSpan(0);
        x.setPeriod(2);
        equal("find", 1, Kit.find(x, "cd"));
        x.undo();
        equal("find after undo", 1, Kit.find(x, "cd"));
    }

    static void promise09NamesOfTheTextBeforeAreForgotten() {
        SpanTimetable x = Kit.made(Texts.SIX);
        Kit.load(x, "period 5;event b 1;event a 2;");
        equal("the same NAME", 1, Kit.find(x, "a"));
        equal("a third NAME", NONE, Kit.find(x, "c"));
        Kit.load(x, "");
        equal("a NAME of a text before an empty one", NONE, Kit.find(x, "a"));
    }

    static void promise09NamesStayBehindAnIllegalText() {
        SpanTimetable x = Kit.made(Texts.SIX);
        Kit.load(x, "period 5;event q 1;event a 5;");
        equal("an old NAME", 0, Kit.find(x, "a"));
        equal("a NAME of the illegal text", NONE, Kit.find(x, "q"));
    }

    // ---- promises 10 and 11

    static void promise10TimeOfTheFirstAndTheLastEvent() {
        SpanTimetable x = Kit.made("period 24;event a 23;event b 1;event c 2;event d 3;event e 4;event f 0;");
        equal("time(0)", 23, x.time(0));
        equal("time(5)", 0, x.time(5));
    }

    static void promise11WhatIs0To4() {
        SpanTimetable x = Kit.made("period 24;event a 0;event b 0;span b a 48 71 20;");
        int[] due = {1, 0, 48, 71, 20};
        for (int what = 0; what < 5; what++) {
            equal("span(0, " + what + ")", due[what], x.span(0, what));
        }
    }

    static void promise11FirstAndLastSpan() {
        SpanTimetable x = Kit.made(Texts.FULL);
        equal("span(0, 1)", 5, x.span(0, 1));
        equal("span(13, 1)", 2, x.span(13, 1));
    }

    // ---- promises 12 and 13

    static void promise12DurationIsLowAtLeast() {
        equal("LOW 3", 3, duration(10, 0, 3, 3));
        equal("LOW 13", 13, duration(10, 0, 3, 13));
        equal("LOW 43", 43, duration(10, 0, 3, 43));
    }

    static void promise12DurationIsLowPlusPeriodMinus1AtMost() {
        equal("LOW 4", 13, duration(10, 0, 3, 4));
        equal("LOW 44", 53, duration(10, 0, 3, 44));
        equal("LOW 48 of a period of 24", 71, duration(24, 0, 23, 48));
        equal("LOW 48 of a period of 2", 49, duration(2, 0, 1, 48));
    }

    static void promise12DurationOfEqualTimes() {
        equal("LOW 0", 0, duration(10, 7, 7, 0));
        equal("LOW 1", 10, duration(10, 7, 7, 1));
        equal("LOW 10", 10, duration(10, 7, 7, 10));
        equal("LOW 11", 20, duration(10, 7, 7, 11));
    }

    static void promise12DurationWrapsRoundThePeriod() {
        equal("from 9 to 0", 1, duration(10, 9, 0, 0));
        equal("from 9 to 0 with LOW 1", 1, duration(10, 9, 0, 1));
        equal("from 9 to 0 with LOW 2", 11, duration(10, 9, 0, 2));
        equal("from 9 to 0 with LOW 48", 51, duration(10, 9, 0, 48));
        equal("from 0 to 9", 9, duration(10, 0, 9, 0));
        equal("from 23 to 0", 1, duration(24, 23, 0, 0));
        equal("from 1 to 0 of a period of 2", 1, duration(2, 1, 0, 0));
    }

    static void promise13SlackIs0AtLeastAndPeriodMinus1AtMost() {
        SpanTimetable x = Kit.made("period 24;event a 23;event b 0;span a b 1 1;span a b 2 2;span b a 47 47;span b a 48 48;");
        int[] due = {0, 23, 0, 23};
        for (int span = 0; span < 4; span++) {
            equal("slack(" + span + ")", due[span], x.slack(span));
        }
    }

    // ---- promises 14 to 16

    static void promise14KeptIfTheDurationIsHighAtMost() {
        SpanTimetable x = Kit.made(Texts.THREE + "span a b 1 2;span a b 1 3;span a b 1 4;span a b 41 42;span a b 41 43;");
        boolean[] due = {false, true, true, false, true};
        for (int span = 0; span < 5; span++) {
            equal("isKept(" + span + ")", due[span], x.isKept(span));
        }
    }

    static void promise14HighIsLow() {
        SpanTimetable x = Kit.made("period 5;event a 4;event b 0;span a b 3 3;");
        for (int time = 0; time < 5; time++) {
            x.move(1, time);
            equal("isKept with b at " + time, time == 2, x.isKept(0));
        }
    }

    static void promise14HighIsLowPlusPeriodMinus1() {
        SpanTimetable x = Kit.made("period 5;event a 4;event b 0;span a b 3 7;");
        for (int time = 0; time < 5; time++) {
            x.move(1, time);
            equal("isKept with b at " + time, true, x.isKept(0));
        }
    }

    static void promise15NoneAndAllBroken() {
        equal("without events", 0, new SpanTimetable().broken());
        equal("without spans", 0, Kit.made(Texts.SIX).broken());
        equal("none of 14", 0, Kit.made(Texts.FULL).broken());
        equal("all of 14", 14, Kit.made(Texts.SIX + "span a b 1 3;".repeat(14)).broken());
    }

    static void promise16FirstBrokenOfAll() {
        equal("firstBroken", 0, Kit.made(Texts.SIX + "span a b 1 3;".repeat(14)).firstBroken());
    }

    static void promise16OnlyTheLastIsBroken() {
        equal("firstBroken", 13, Kit.made(Texts.SIX + "span a b 0 0;".repeat(13) + "span a b 1 3;").firstBroken());
    }

    // ---- promises 17 and 18

    static void promise17CostOfNoSpans() {
        equal("without events", 0, new SpanTimetable().cost());
        equal("without spans", 0, Kit.made(Texts.SIX).cost());
    }

    static void promise17GreatestCost() {
        SpanTimetable x = Kit.made("period 24;event a 7;event b 7;" + "span a b 1 1 20;".repeat(14));
        equal("cost", 14 * 20 * 23, x.cost());
    }

    static void promise17BrokenSpansCostToo() {
        equal("cost", 2 * 9 + 3, Kit.made(Texts.THREE + "span a b 4 4 2;span a b 0 9 1;").cost());
    }

    static void promise17WeightOf0CostsNothing() {
        equal("cost", 0, Kit.made(Texts.THREE + "span a b 4 4 0;").cost());
    }

    static void promise18SumOf0() {
        equal("without spans", 0f, Kit.made(Texts.SIX).meanSlack());
        equal("WEIGHTs of 0", 0f, Kit.made(Texts.THREE + "span a b 4 4 0;span b c 0 9 0;").meanSlack());
    }

    static void promise18SumOf1() {
        equal("meanSlack", 9f, Kit.made(Texts.THREE + "span a b 4 4 1;span b c 0 9 0;").meanSlack());
    }

    static void promise18CostOf0() {
        equal("meanSlack", 0f, Kit.made(Texts.THREE + "span a b 3 3 20;").meanSlack());
    }

    static void promise18GreatestSum() {
        SpanTimetable x = Kit.made("period 24;event a 7;event b 7;" + "span a b 1 1 20;".repeat(14));
        equal("meanSlack", 23f, x.meanSlack());
    }

    static void promise18MeanIsNoWholeNumber() {
        SpanTimetable x = Kit.made(Texts.THREE + "span a b 2 4 1;span a b 3 3 2;");
        equal("a third", 1f / 3f, x.meanSlack());
        x.setWeight(0, 2);
        x.setWeight(1, 1);
        equal("two thirds", 2f / 3f, x.meanSlack());
    }
}
