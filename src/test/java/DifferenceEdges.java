/** Promises 19 to 23 and DIFFERENCES: each sentence that names a boundary case, a test of its own. */
final class DifferenceEdges {
    private static final String TWO = "period 10;event a 0;event b 0;";
    private static final String FIVE = "event a 0;event b 0;event c 0;event d 0;event e 0;";

    private DifferenceEdges() {
    }

    private static void equal(String what, Object due, Object got) {
        Kit.equal(what, due, got);
    }

    /** A 1 for each difference that is allowed, tightened, from 0 on. */
    private static String differences(SpanTimetable x, int from, int to) {
        StringBuilder text = new StringBuilder();
        for (int difference = 0; difference < x.period(); difference++) {
            text.append(x.isAllowed(from, to, difference) ? '1' : '0');
        }
        return text.toString();
    }

    private static String bounds(SpanTimetable x, int span) {
        return x.bound(span, false) + " to " + x.bound(span, true);
    }

    // ---- promise 19

    static void promise19SameEventHas1() {
        SpanTimetable x = Kit.made(Texts.SIX);
        equal("told", 1, x.allowed(0, 0, false));
        equal("tightened", 1, x.allowed(5, 5, true));
    }

    static void promise19SameEventHas1ThoughASetIsEmpty() {
        SpanTimetable x = Kit.made(Texts.TRIANGLE + "span a b 9 9;");
        equal("told", 1, x.allowed(0, 0, false));
        equal("tightened", 1, x.allowed(0, 0, true));
    }

    static void promise19AllOfAPeriodOf2() {
        SpanTimetable x = Kit.made("period 2;event a 0;event b 0;");
        equal("told", 2, x.allowed(0, 1, false));
        equal("tightened", 2, x.allowed(1, 0, true));
    }

    static void promise19AllOfAPeriodOf24() {
        SpanTimetable x = Kit.made("period 24;event a 0;event b 0;event c 0;");
        equal("told", 24, x.allowed(0, 2, false));
        equal("tightened", 24, x.allowed(2, 1, true));
    }

    static void promise19HighIsLow() {
        equal("told", 1, Kit.made(TWO + "span a b 48 48;").allowed(0, 1, false));
    }

    static void promise19HighIsLowPlusPeriodMinus1() {
        equal("told", 10, Kit.made(TWO + "span a b 48 57;").allowed(0, 1, false));
        equal("one less", 9, Kit.made(TWO + "span a b 48 56;").allowed(0, 1, false));
    }

    static void promise19SpansOfBothDirectionsCount() {
        SpanTimetable x = Kit.made(TWO + "span a b 2 5;span b a 6 8;");
        // 2 to 5 and -8 to -6, which is 2 to 4
        equal("a to b", 3, x.allowed(0, 1, false));
        equal("b to a", 3, x.allowed(1, 0, false));
    }

    static void promise19NoneIsAllowed() {
        SpanTimetable x = Kit.made(TWO + "span a b 2 5;span a b 6 8;");
        equal("told", 0, x.allowed(0, 1, false));
        equal("tightened", 0, x.allowed(1, 0, true));
    }

    static void promise19EmptySetEmptiesThoseOverThirdEvents() {
        SpanTimetable x = Kit.made(Texts.SIX + "span a b 0 0;span a b 1 1;");
        equal("told, e and f", 4, x.allowed(4, 5, false));
        equal("tightened, e and f", 0, x.allowed(4, 5, true));
    }

    static void promise19ToldIsNotTightened() {
        SpanTimetable x = Kit.made(Texts.THREE + "span a b 2 2;span b c 3 4;");
        equal("tightened", 2, x.allowed(0, 2, true));
        equal("told, after it", 10, x.allowed(0, 2, false));
    }

    // ---- promise 20

    static void promise20SameEventAllowsOnly0() {
        SpanTimetable x = Kit.made(Texts.THREE);
        equal("event 0", "1000000000", differences(x, 0, 0));
        equal("event 2", "1000000000", differences(x, 2, 2));
    }

    static void promise20DifferenceIs0ToPeriodMinus1() {
        SpanTimetable x = Kit.made("period 24;event a 0;event b 0;span a b 23 24;");
        equal("0", true, x.isAllowed(0, 1, 0));
        equal("23", true, x.isAllowed(0, 1, 23));
        equal("1", false, x.isAllowed(0, 1, 1));
        equal("22", false, x.isAllowed(0, 1, 22));
        equal("b to a", "11" + "0".repeat(22), differences(x, 1, 0));
    }

    static void promise20DifferencesWrapRoundThePeriod() {
        SpanTimetable x = Kit.made(TWO + "span a b 8 11;");
        equal("a to b", "1100000011", differences(x, 0, 1));
        equal("b to a", "1110000001", differences(x, 1, 0));
    }

    static void promise20LowIsLongerThanThePeriod() {
        equal("a to b", "1000000011", differences(Kit.made(TWO + "span a b 48 50;"), 0, 1));
        equal("of a period of 2", "01", differences(Kit.made("period 2;event a 0;event b 0;span b a 47 47;"), 0, 1));
    }

    static void promise20SumsWrapRoundThePeriod() {
        SpanTimetable x = Kit.made(Texts.THREE + "span a b 7 8;span b c 6 6;");
        equal("a to c", "0001100000", differences(x, 0, 2));
        equal("c to a", "0000001100", differences(x, 2, 0));
    }

    static void promise20OfAPeriodOf24() {
        SpanTimetable x = Kit.made("period 24;event a 0;event b 0;event c 0;span a b 23 23;span b c 23 24;");
        equal("a to c", "0".repeat(22) + "11", differences(x, 0, 2));
        equal("c to a", "011" + "0".repeat(21), differences(x, 2, 0));
    }

    static void promise20TimesDoNotMatter() {
        SpanTimetable x = Kit.made("period 10;event a 3;event b 9;span a b 2 3;");
        equal("a to b", "0011000000", differences(x, 0, 1));
    }

    // ---- promise 21

    static void promise21OneRoundAtLeast() {
        equal("without events", 1, new SpanTimetable().rounds());
        equal("one event", 1, Kit.made("period 5;event a 0;").rounds());
        equal("two events", 1, Kit.made(TWO + "span a b 1 2;").rounds());
        equal("six events", 1, Kit.made(Texts.SIX).rounds());
    }

    static void promise21OneRoundOfAnEmptySetOfTwoEvents() {
        equal("rounds", 1, Kit.made(TWO + "span a b 1 2;span a b 3 4;").rounds());
    }

    static void promise21RoundThatChangesNothingCounts() {
        equal("rounds", 2, Kit.made(Texts.THREE + "span a b 2 2;span b c 3 4;").rounds());
    }

    static void promise21EmptySetsAreTightenedToo() {
        equal("rounds", 2, Kit.made(Texts.THREE + "span a b 2 2;span a b 3 4;").rounds());
    }

    static void promise21ThirdEventIsTheOuterOne() {
        equal("rounds", 2, Kit.made("period 6;" + FIVE + "span d b 1 1;span c b 2 2;span d c 2 4;").rounds());
    }

    static void promise21ThirdEventComesBeforeTheSecondOne() {
        equal("rounds", 2, Kit.made("period 8;" + FIVE + "span c d 3 3;span e d 2 5;span c e 4 4;").rounds());
    }

    static void promise21ThirdEventsGoFrom0Up() {
        equal("rounds", 2, Kit.made("period 7;" + FIVE + "span c a 3 4;span e a 6 8;span e c 4 7;span c b 1 5;").rounds());
    }

    static void promise21SetsAreTakenAsTheyAreAtTheMoment() {
        equal("rounds", 2, Kit.made("period 4;event a 0;event b 0;event c 0;event d 0;span d c 3 4;span a d 0 1;span d c 2 2;")
                .rounds());
    }

    // ---- promise 22

    static void promise22TightWithoutSets() {
        equal("without events", true, new SpanTimetable().isTight());
        equal("one event", true, Kit.made("period 5;event a 0;").isTight());
    }

    static void promise22TightWithAllDifferences() {
        equal("six events", true, Kit.made(Texts.SIX).isTight());
    }

    static void promise22OneDifferenceIsEnough() {
        equal("one", true, Kit.made(TWO + "span a b 2 4;span a b 4 6;").isTight());
        equal("none", false, Kit.made(TWO + "span a b 2 4;span a b 5 6;").isTight());
    }

    static void promise22EmptySetOfTheLastTwoEvents() {
        equal("isTight", false, Kit.made(Texts.SIX + "span e f 1 1;span f e 1 1;").isTight());
    }

    static void promise22SetThatIsEmptyOnlyInTheEnd() {
        equal("isTight", false, Kit.made(Texts.THREE + "span a b 1 2;span b c 1 2;span a c 5 11;").isTight());
        equal("nearly", true, Kit.made(Texts.THREE + "span a b 1 2;span b c 1 2;span a c 4 11;").isTight());
    }

    static void promise22BrokenSpansDoNotMatter() {
        equal("isTight", true, Kit.made(Texts.THREE + "span a b 5 5;").isTight());
    }

    // ---- promise 23

    static void promise23SmallestIsLowAndGreatestIsHigh() {
        equal("bounds", "2 to 6", bounds(Kit.made(TWO + "span a b 2 6;"), 0));
    }

    static void promise23AllDifferences() {
        equal("bounds", "48 to 57", bounds(Kit.made(TWO + "span a b 48 57;"), 0));
        equal("bounds of a period of 24", "48 to 71", bounds(Kit.made("period 24;event a 0;event b 0;span a b 48 71;"), 0));
        equal("bounds of a period of 2", "0 to 1", bounds(Kit.made("period 2;event a 0;event b 0;span a b 0 1;"), 0));
    }

    static void promise23OneDifference() {
        equal("bounds", "48 to 48", bounds(Kit.made(TWO + "span a b 48 48;"), 0));
        equal("bounds of LOW 0", "0 to 0", bounds(Kit.made(TWO + "span a b 0 0;"), 0));
    }

    static void promise23TightenedByAnotherSpan() {
        SpanTimetable x = Kit.made(TWO + "span a b 1 8;span b a 4 7;");
        equal("bounds of 0", "3 to 6", bounds(x, 0));
        equal("bounds of 1", "4 to 7", bounds(x, 1));
    }

    static void promise23TightenedOverAThirdEvent() {
        SpanTimetable x = Kit.made(Texts.THREE + "span a c 40 49;span a b 1 2;span b c 3 4;");
        // Differences 4 to 6, of which 40 to 49 make 44 to 46
        equal("bounds", "44 to 46", bounds(x, 0));
    }

    static void promise23DifferencesWrapRoundThePeriod() {
        SpanTimetable x = Kit.made(TWO + "span a b 5 14;span b a 8 11;");
        // Differences 9, 0, 1, 2: in 5 to 14 they are 9 to 12
        equal("bounds", "9 to 12", bounds(x, 0));
        SpanTimetable y = Kit.made(TWO + "span a b 0 9;span b a 8 11;");
        equal("bounds of both ends", "0 to 9", bounds(y, 0));
    }

    static void promise23NoneIsAllowed() {
        SpanTimetable x = Kit.made(Texts.THREE + "span a b 1 1;span b a 1 1;span b c 0 9;");
        for (int span = 0; span < 3; span++) {
            int it = span;
            equal("smallest of " + span, "NoSuchElementException", Kit.thrown(() -> x.bound(it, false)));
            equal("greatest of " + span, "NoSuchElementException", Kit.thrown(() -> x.bound(it, true)));
        }
    }
}
