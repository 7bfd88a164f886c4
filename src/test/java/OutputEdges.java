/** Promises 47 to 49: each sentence that names a boundary case, a test of its own. */
final class OutputEdges {
    private static final String INDEX = "IndexOutOfBoundsException";
    private static final String LINE = "span a b 48 49;span b c 48 49;span c d 48 49;span d e 48 49;span e f 48 49;";

    private OutputEdges() {
    }

    private static void equal(String what, Object due, Object got) {
        Kit.equal(what, due, got);
    }

    private static void writes(SpanTimetable x, String due) {
        equal("write", due.length(), x.write());
        equal("output", due, Kit.output(x));
    }

    private static void writesCycle(SpanTimetable x, int cycle, String due) {
        equal("writeCycle", due.length(), x.writeCycle(cycle));
        equal("output", due, Kit.output(x));
    }

    // ---- promise 47

    static void promise47WithoutEvents() {
        writes(new SpanTimetable(), "");
    }

    static void promise47OneEvent() {
        writes(Kit.made("period 5;event a 4;"), "a=4");
    }

    static void promise47SixEvents() {
        writes(Kit.made(Texts.SIX), "a=0 b=0 c=0 d=0 e=0 f=0");
    }

    static void promise47NamesOfOneAndOfEightLetters() {
        writes(Kit.made("period 5;event z 1;event abcdefgh 2;event period 3;"), "z=1 abcdefgh=2 period=3");
    }

    static void promise47TimesOfOneAndOfTwoDigits() {
        writes(Kit.made("period 24;event a 0;event b 9;event c 10;event d 19;event e 20;event f 23;"),
                "a=0 b=9 c=10 d=19 e=20 f=23");
    }

    static void promise47NoBrokenSpans() {
        writes(Kit.made(Texts.FULL), "a=0 b=0 c=0 d=0 e=0 f=0");
    }

    static void promise47BrokenSpansOfOneAndOfTwoDigits() {
        SpanTimetable x = Kit.made("period 4;event a 0;event b 0;" + "span a b 1 3;" + "span a b 0 0;".repeat(8)
                + "span a b 1 3;span a b 1 3;" + "span a b 0 0;".repeat(2) + "span a b 1 3;");
        writes(x, "a=0 b=0 !0 !9 !10 !13");
    }

    static void promise47LongestOutput() {
        StringBuilder text = new StringBuilder("period 24;");
        StringBuilder due = new StringBuilder();
        for (char sign = 'a'; sign < 'g'; sign++) {
            text.append("event ").append(String.valueOf(sign).repeat(8)).append(" 23;");
            due.append(sign == 'a' ? "" : " ").append(String.valueOf(sign).repeat(8)).append("=23");
        }
        SpanTimetable x = Kit.made(text.toString());
        for (int span = 0; span < 14; span++) {
            x.addSpan(0, 5, 1, 1, 0);
            due.append(" !").append(span);
        }
        writes(x, due.toString());
    }

    static void promise47ShorterOutputLeavesNothingOfALongerOne() {
        SpanTimetable x = Kit.made(Texts.TRIANGLE);
        writes(x, "a=0 b=3 c=7 !3");
        x.removeSpan(3);
        writes(x, "a=0 b=3 c=7");
        equal("written(11)", INDEX, Kit.thrown(() -> x.written(11)));
    }

    static void promise47WriteTakesThePlaceOfACycle() {
        SpanTimetable x = Kit.made(Texts.TRIANGLE);
        x.writeCycle(0);
        writes(x, "a=0 b=3 c=7 !3");
    }

    static void promise47TwiceTheSame() {
        SpanTimetable x = Kit.made(Texts.TRIANGLE);
        x.write();
        writes(x, "a=0 b=3 c=7 !3");
    }

    static void promise47NamesOfTheLatestText() {
        SpanTimetable x = Kit.made(Texts.TRIANGLE);
        Kit.load(x, "period 5;event abc 4;event q 0;");
        writes(x, "abc=4 q=0");
        Kit.load(x, "period 5;event r 4;event ?");
        writes(x, "abc=4 q=0");
    }

    static void promise47NothingElseChanges() {
        SpanTimetable x = Kit.lived(Texts.TRIANGLE);
        x.write();
        equal("all", Kit.everything(Kit.lived(Texts.TRIANGLE)), Kit.everything(x));
    }

    // ---- promise 48

    static void promise48ShortestCycle() {
        writesCycle(Kit.made(Texts.SIX + "span a b 0 0;span a b 0 0;"), 0, "+1-0=0");
    }

    static void promise48LongestCycle() {
        writesCycle(Kit.made("period 2;event a 0;event b 0;event c 0;event d 0;event e 0;event f 0;" + LINE + "span f a 48 49;"),
                0, "+5+0+1+2+3+4=144");
    }

    static void promise48MostAndFewestTurns() {
        String events = "period 2;event a 0;event b 1;event c 0;event d 1;event e 0;event f 1;";
        writesCycle(Kit.made(events + LINE + "span f a 48 49;"), 0, "+5+0+1+2+3+4=147");
        writesCycle(Kit.made(events + LINE + "span a f 0 1;"), 0, "+5-4-3-2-1-0=-122");
    }

    static void promise48TurnsOfEachNumberOfDigits() {
        String text = "period 2;event a 0;event b 0;span a b ";
        writesCycle(Kit.made(text + "0 1;span a b 0 1;"), 0, "+1-0=0");
        writesCycle(Kit.made(text + "0 1;span a b 18 19;"), 0, "+1-0=9");
        writesCycle(Kit.made(text + "0 1;span a b 20 21;"), 0, "+1-0=10");
        writesCycle(Kit.made(text + "2 3;span a b 0 1;"), 0, "+1-0=-1");
        writesCycle(Kit.made(text + "18 19;span a b 0 1;"), 0, "+1-0=-9");
        writesCycle(Kit.made(text + "20 21;span a b 0 1;"), 0, "+1-0=-10");
    }

    static void promise48TurnsRound100() {
        String line = "period 2;event a 0;event b 0;event c 0;event d 0;event e 0;event f 0;" + LINE.replace("48 49", "40 41");
        writesCycle(Kit.made(line.replace("e f 40 41", "e f 38 39") + "span f a 0 1;"), 0, "+5+0+1+2+3+4=99");
        writesCycle(Kit.made(line + "span f a 0 1;"), 0, "+5+0+1+2+3+4=100");
        writesCycle(Kit.made(line.replace("e f 40 41", "e f 38 39") + "span a f 0 1;"), 0, "+5-4-3-2-1-0=-99");
        writesCycle(Kit.made(line + "span a f 0 1;"), 0, "+5-4-3-2-1-0=-100");
    }

    static void promise48SpansOfTwoDigits() {
        SpanTimetable x = Kit.made(Texts.SIX + "span a b 0 0;".repeat(9) + "span b c 0 0;".repeat(4) + "span c a 4 4;");
        writesCycle(x, 8, "+10-9=0");
        writesCycle(x, 11, "+13+0+9=1");
    }

    static void promise48BrokenSpansAreWrittenToo() {
        writesCycle(Kit.made(Texts.SIX + "span a b 1 1;span a b 0 0;"), 0, "+1-0=-1");
    }

    static void promise48CycleTakesThePlaceOfTheOutput() {
        SpanTimetable x = Kit.made(Texts.TRIANGLE);
        x.write();
        writesCycle(x, 0, "+2+0+1=1");
        equal("written(8)", INDEX, Kit.thrown(() -> x.written(8)));
    }

    static void promise48RefusedCycleLeavesTheOutput() {
        SpanTimetable x = Kit.made(Texts.TRIANGLE);
        x.write();
        equal("writeCycle(2)", INDEX, Kit.thrown(() -> x.writeCycle(2)));
        equal("output", "a=0 b=3 c=7 !3", Kit.output(x));
    }

    static void promise48NothingElseChanges() {
        SpanTimetable x = Kit.lived(Texts.TRIANGLE);
        x.writeCycle(1);
        x.write();
        equal("all", Kit.everything(Kit.lived(Texts.TRIANGLE)), Kit.everything(x));
    }

    // ---- promise 49

    static void promise49FirstAndLastCharacter() {
        SpanTimetable x = Kit.made(Texts.TRIANGLE);
        x.write();
        equal("written(0)", 'a', x.written(0));
        equal("written(13)", '3', x.written(13));
        equal("written(14)", INDEX, Kit.thrown(() -> x.written(14)));
        equal("written(-1)", INDEX, Kit.thrown(() -> x.written(-1)));
    }

    static void promise49NothingWasWrittenYet() {
        SpanTimetable x = Kit.made(Texts.TRIANGLE);
        equal("written(0)", INDEX, Kit.thrown(() -> x.written(0)));
        equal("writeCycle(2)", INDEX, Kit.thrown(() -> x.writeCycle(2)));
        equal("written(0) after a refused call", INDEX, Kit.thrown(() -> x.written(0)));
    }

    static void promise49EmptyOutput() {
        SpanTimetable x = new SpanTimetable();
        x.write();
        equal("written(0)", INDEX, Kit.thrown(() -> x.written(0)));
    }

    static void promise49EmptyOutputInPlaceOfAnother() {
        SpanTimetable x = Kit.made(Texts.TRIANGLE);
        x.write();
        Kit.load(x, "");
        x.write();
        equal("written(0)", INDEX, Kit.thrown(() -> x.written(0)));
    }

    static void promise49OutputStaysWhenTheTimetableChanges() {
        SpanTimetable x = Kit.made(Texts.TRIANGLE);
        x.write();
        x.move(0, 9);
        x.removeSpan(3);
        x.undo();
        Kit.load(x, "period 5;event z 1;");
        Kit.load(x, "?");
        equal("output", "a=0 b=3 c=7 !3", Kit.output(x));
    }

    static void promise49WrittenChangesNothing() {
        Kit.unchanged(() -> Kit.lived(Texts.TRIANGLE), "written", x -> x.written(0));
    }
}
