import java.util.Arrays;

/** A test for each promise of the document: ordinary inputs, its edges, and wrong inputs. */
public final class PromiseTests {
    private static final String INDEX = "IndexOutOfBoundsException";
    private static final String ARGUMENT = "IllegalArgumentException";
    private static final String NOTHING_THERE = "NoSuchElementException";
    private static final String STATE = "IllegalStateException";
    private static final int LEAST = Integer.MIN_VALUE;
    private static final int MOST = Integer.MAX_VALUE;

    private static final String THREE = Texts.THREE;
    private static final String TRIANGLE = Texts.TRIANGLE;
    private static final String LOOSE = Texts.LOOSE;
    private static final String SIX = Texts.SIX;
    private static final String CROWD = Texts.CROWD;
    private static final String RINGS = Texts.RINGS;

    private PromiseTests() {
    }

    public static void main(String[] args) throws IllegalAccessException {
        Kit.runAll(PromiseTests.class);
        Kit.exit();
    }

    private static void equal(String what, Object due, Object got) {
        Kit.equal(what, due, got);
    }

    private static void illegal(String text, int kind, int position) {
        Texts.illegal(text, kind, position);
    }

    private static void legal(String text, int period, String times, String spans) {
        Texts.legal(text, period, times, spans);
    }

    static void promise01NewObject() {
        SpanTimetable x = new SpanTimetable();
        equal("period", 12, x.period());
        equal("events", 0, x.events());
        equal("spans", 0, x.spans());
        equal("errorKind", 0, x.errorKind());
        equal("undo", SpanTimetable.NONE, x.undo());
        equal("load(1) of the empty buffer", ARGUMENT, Kit.thrown(() -> x.load(1)));
        equal("feed into the empty buffer", 20, x.feed(0, 0, 0, 0, 0));
        equal("NONE", -1, SpanTimetable.NONE);
        equal("FULL", -2, SpanTimetable.FULL);
        equal("BAD_TEXT", -3, SpanTimetable.BAD_TEXT);
        equal("constructors", "[public SpanTimetable()]", Arrays.toString(SpanTimetable.class.getConstructors()));
    }

    static void promise02Feed() {
        SpanTimetable x = new SpanTimetable();
        for (int k = 1; k <= 25; k++) {
            equal("feed " + k, 20 * k, x.feed(0x20202020, 0x20202020, 0x20202020, 0x20202020, 0x20202020));
        }
        equal("feed 26", SpanTimetable.FULL, x.feed(0, 0, 0, 0, 0));
        equal("feed 27", SpanTimetable.FULL, x.feed(LEAST, MOST, -1, 1, 0));
        equal("load of 500 bytes, none of them fed when it was full", 0, x.load(500));
        // abcd efgh ijkl mnop qrst: the order of the bytes
        x.feed(0x70657269, 0x6f642031, 0x323b6576, 0x656e7420, 0x78203131);
        equal("feed behind", 40, x.feed(0x3b657665, 0x6e742079, 0x2039203b, 0x20202020, 0x20202020));
        equal("load", 0, x.load(40));
        equal("times", "11 9", Kit.times(x));
        equal("a byte above 127 is illegal", SpanTimetable.NONE, x.feed(0xff202020, 0, 0, 0, 0) == 20 ? x.find(1) : 0);
    }

    static void promise03LoadOfLegalTexts() {
        legal("", 12, "", "");
        legal(" \n\n ", 12, "", "");
        legal("period 2;", 2, "", "");
        legal("period24;", 24, "", "");
        legal("\n period\n05 \n;\n ", 5, "", "");
        legal("period 10;event a 0;event b 09;span b a 0 0;", 10, "0 9", "1 0 0 0 1");
        legal("period 10;event a 0;event b 9;span a b 48 57 20;span b a 00 09 00;", 10, "0 9", "0 1 48 57 20; 1 0 0 9 0");
        legal("period 3;event period 1;event event 2;event span 0;span event span 1 1 1;", 3, "1 2 0", "1 2 1 1 1");
        legal("period 3;event a 1;event b 1;span a b 0 0;event abcdefgh 2;span abcdefgh a 4 6 7;", 3, "1 1 2",
                "0 1 0 0 1; 2 0 4 6 7");
        legal("period 24;event a0;event b23;span a b48 71 1;", 24, "0 23", "0 1 48 71 1");
        StringBuilder most = new StringBuilder(SIX);
        StringBuilder spans = new StringBuilder();
        for (int k = 0; k < 14; k++) {
            most.append("span a f 0 3 ").append(k).append(";");
            spans.append(k == 0 ? "" : "; ").append("0 5 0 3 ").append(k);
        }
        legal(most.toString(), 4, "0 0 0 0 0 0", spans.toString());
    }

    static void promise03LoadTakesTheFirstBytesAndEmptiesTheBuffer() {
        SpanTimetable x = new SpanTimetable();
        Kit.feed(x, "period 5;period".getBytes());
        equal("length above the buffer", ARGUMENT, Kit.thrown(() -> x.load(21)));
        equal("length below 0", ARGUMENT, Kit.thrown(() -> x.load(-1)));
        equal("the wildest length", ARGUMENT, Kit.thrown(() -> x.load(LEAST)));
        equal("the buffer kept its bytes", 0, x.load(9));
        equal("period", 5, x.period());
        equal("the buffer is empty", ARGUMENT, Kit.thrown(() -> x.load(1)));
        equal("load(0) is an empty text", 0, x.load(0));
        equal("period of an empty text", 12, x.period());
        Kit.feed(x, "nonsense".getBytes());
        equal("an illegal text", SpanTimetable.BAD_TEXT, x.load(8));
        equal("the buffer is empty after it, too", ARGUMENT, Kit.thrown(() -> x.load(1)));
    }

    static void promise03LoadForgetsEditsOnlyIfItSucceeds() {
        SpanTimetable x = Kit.made(TRIANGLE);
        x.move(0, 1);
        x.write();
        Kit.load(x, "period;");
        Kit.refused(x, ARGUMENT, "load", () -> x.load(1));
        equal("output after load", "a=1 b=3 c=7 !2", Kit.output(x));
        equal("undo after an illegal text", 0, x.undo());
        equal("time after it", 0, x.time(0));
        x.move(0, 1);
        Kit.load(x, "period 3;event z 2;");
        equal("undo after a legal text", SpanTimetable.NONE, x.undo());
        equal("times after it", "2", Kit.times(x));
        equal("output still", "a=1 b=3 c=7 !2", Kit.output(x));
    }

    static void promise04ErrorKind() {
        illegal("periods 5;", 2, 0);
        illegal("Period 5;", 1, 0);
        illegal("abcdefghi", 1, 0);
        illegal("period 100;", 1, 7);
        illegal("period \t5;", 1, 7);
        illegal("period \r5;", 1, 7);
        illegal("period 5;event a 001;", 1, 17);
        illegal("period 5;event abcdefghi 1;", 1, 15);
        illegal("period 5;event \u00e1 1;", 1, 15);
        illegal("period 5;event a\u0000 1;", 1, 16);
        illegal("period 5`", 1, 8);
        illegal("period 5{", 1, 8);
        illegal("period 5/", 1, 8);
        illegal("period 5:", 1, 8);
        illegal(";", 2, 0);
        illegal("12", 2, 0);
        illegal("event a 1;", 2, 0);
        illegal("period;", 2, 6);
        illegal("period x;", 2, 7);
        illegal("period 5 5;", 2, 9);
        illegal("period 5;;", 2, 9);
        illegal("period 5;period 5;", 2, 9);
        illegal("period 5;7", 2, 9);
        illegal("period 5;events a 1;", 2, 9);
        illegal("period 5;event 1 1;", 2, 15);
        illegal("period 5;event a a;", 2, 17);
        illegal("period 5;event a;", 2, 16);
        illegal("period 5;event a 1 1;", 2, 19);
    }

    static void promise04ErrorKindOfRangesAndNames() {
        String two = "period 5;event a 1;event b 2;";
        illegal("period 0;", 3, 7);
        illegal("period 1;", 3, 7);
        illegal("period 25;", 3, 7);
        illegal("period 99;", 3, 7);
        illegal("period 5;event a 5;", 3, 17);
        illegal(two + "span a b 49 49;", 3, 38);
        illegal(two + "span a b 3 2;", 3, 40);
        illegal(two + "span a b 3 8;", 3, 40);
        illegal(two + "span a b 3 7 21;", 3, 42);
        illegal(two + "span a b 3 7 x;", 2, 42);
        illegal(two + "span a b 3;", 2, 39);
        illegal(two + "span a b;", 2, 37);
        illegal(two + "span a;", 2, 35);
        illegal(two + "span 1;", 2, 34);
        illegal(two + "span a 1;", 2, 36);
        illegal(two + "span a b x;", 2, 38);
        illegal(two + "span a b 3 x;", 2, 40);
        illegal(two + "span a b 3 7 1 1;", 2, 44);
        illegal(two + "event a 1;", 4, 35);
        illegal(two + "span c b 3 7;", 4, 34);
        illegal(two + "span a c 3 7;", 4, 36);
        illegal(two + "span a a 3 7;", 4, 36);
        illegal(two + "span a ab 3 7;", 4, 36);
        illegal("period 5;span a b 1 2;event a 1;event b 1;", 4, 14);
        illegal("period 5;event a 1;span a b 1 2;", 4, 26);
        illegal(SIX + "event g 0;", 5, SIX.length());
        illegal(SIX + "event a 0;", 5, SIX.length());
        illegal(SIX + "events g 0;", 2, SIX.length());
        illegal(SIX + "EVENT g 0;", 1, SIX.length());
        String full = SIX + "span a f 0 3;".repeat(14);
        illegal(full + "span", 5, full.length());
        illegal(full + "event", 5, full.length());
        illegal(full + "spans", 2, full.length());
    }

    static void promise04ErrorKindIsOfTheLatestLoad() {
        SpanTimetable x = Kit.made("");
        equal("kind of no error", 0, x.errorKind());
        Kit.load(x, "period 1;");
        equal("kind of an error", 3, x.errorKind());
        equal("load that throws", ARGUMENT, Kit.thrown(() -> x.load(1)));
        equal("kind after a load that threw", 3, x.errorKind());
        Kit.find(x, "a");
        x.shift(1);
        x.undo();
        equal("kind after other calls", 3, x.errorKind());
        Kit.load(x, "period x;");
        equal("kind of the next error", 2, x.errorKind());
        Kit.load(x, "period 2;");
        equal("kind after a legal text", 0, x.errorKind());
    }

    static void promise05ErrorPosition() {
        SpanTimetable x = new SpanTimetable();
        equal("position without load", SpanTimetable.NONE, x.errorPosition());
        Kit.load(x, "period 1;");
        equal("position of an error", 7, x.errorPosition());
        equal("load that throws", ARGUMENT, Kit.thrown(() -> x.load(-1)));
        equal("position after a load that threw", 7, x.errorPosition());
        Kit.load(x, "period 2;");
        equal("position after a legal text", SpanTimetable.NONE, x.errorPosition());
        for (String early : new String[] {"period", "period ", "period 5", "period 5 \n ", "period 5;event", "period 5;event a",
            "period 5;event a 1", "period 5;event a 1;span", "period 5;event a 1;event b 1;span a b 1 2",
            "period 5;event a 1;event b 1;span a b 1 2 3", "period 5;event a 1;event b 1;span a b 1 "}) {
            illegal(early, 2, early.length());
        }
    }

    static void promise06Period() {
        SpanTimetable x = Kit.made(TRIANGLE);
        equal("period", 10, x.period());
        x.setPeriod(11);
        equal("period after setPeriod", 11, x.period());
        x.undo();
        equal("period after undo", 10, x.period());
    }

    static void promise07Events() {
        equal("three events", 3, Kit.made(TRIANGLE).events());
        equal("six events", 6, Kit.made(SIX).events());
        equal("no events", 0, Kit.made("period 5;").events());
    }

    static void promise08Spans() {
        SpanTimetable x = Kit.made(TRIANGLE);
        equal("four spans", 4, x.spans());
        x.addSpan(0, 1, 0, 0, 0);
        equal("five spans", 5, x.spans());
        x.removeSpan(0);
        x.removeSpan(0);
        equal("three spans", 3, x.spans());
    }

    static void promise09Find() {
        SpanTimetable x = Kit.made("period 9;event ab 1;event a 2;event abcdefgh 3;");
        equal("find ab", 0, Kit.find(x, "ab"));
        equal("find a", 1, Kit.find(x, "a"));
        equal("find abcdefgh", 2, Kit.find(x, "abcdefgh"));
        equal("find a beginning", SpanTimetable.NONE, Kit.find(x, "abc"));
        equal("find more than a NAME", SpanTimetable.NONE, Kit.find(x, "abcdefghi"));
        equal("find with a space", SpanTimetable.NONE, Kit.find(x, " a"));
        equal("find nothing", SpanTimetable.NONE, Kit.find(x, ""));
        Kit.feed(x, "abcdefgh".getBytes());
        Kit.refused(x, ARGUMENT, "find(21)", () -> x.find(21));
        Kit.refused(x, ARGUMENT, "find(-1)", () -> x.find(-1));
        equal("find of the first bytes, kept", 0, x.find(2));
        equal("the buffer is empty", ARGUMENT, Kit.thrown(() -> x.find(1)));
        equal("find(0)", SpanTimetable.NONE, x.find(0));
        Kit.load(x, "period 9;event ab 10;");
        equal("names after an illegal text", 1, Kit.find(x, "a"));
        Kit.load(x, "period 9;event b 1;");
        equal("names of the text before", SpanTimetable.NONE, Kit.find(x, "a"));
        equal("names of the new text", 0, Kit.find(x, "b"));
    }

    static void promise10Time() {
        SpanTimetable x = Kit.made(TRIANGLE);
        equal("times", "0 3 7", Kit.times(x));
        Kit.refused(x, INDEX, "time(3)", () -> x.time(3));
        Kit.refused(x, INDEX, "time(-1)", () -> x.time(-1));
        Kit.refused(x, INDEX, "time(MAX)", () -> x.time(MOST));
        equal("time without events", INDEX, Kit.thrown(() -> new SpanTimetable().time(0)));
    }

    static void promise11Span() {
        SpanTimetable x = Kit.made(TRIANGLE);
        equal("spans", "0 1 2 4 2; 1 2 3 5 1; 2 0 1 3 3; 0 2 5 6 0", Kit.spans(x));
        Kit.refused(x, INDEX, "span(4, 0)", () -> x.span(4, 0));
        Kit.refused(x, INDEX, "span(-1, 0)", () -> x.span(-1, 0));
        Kit.refused(x, INDEX, "span(4, 5): the index is checked first", () -> x.span(4, 5));
        Kit.refused(x, ARGUMENT, "span(0, 5)", () -> x.span(0, 5));
        Kit.refused(x, ARGUMENT, "span(0, -1)", () -> x.span(0, -1));
    }

    static void promise12Duration() {
        SpanTimetable x = Kit.made(TRIANGLE + "span b a 12 21;span a b 43 43;");
        int[] due = {3, 4, 3, 7, 17, 43};
        for (int span = 0; span < due.length; span++) {
            equal("duration(" + span + ")", due[span], x.duration(span));
        }
        Kit.refused(x, INDEX, "duration(6)", () -> x.duration(6));
        Kit.refused(x, INDEX, "duration(-1)", () -> x.duration(-1));
    }

    static void promise13Slack() {
        SpanTimetable x = Kit.made(TRIANGLE + "span b a 12 21;span a b 43 43;span a b 4 4;");
        int[] due = {1, 1, 2, 2, 5, 0, 9};
        for (int span = 0; span < due.length; span++) {
            equal("slack(" + span + ")", due[span], x.slack(span));
        }
        Kit.refused(x, INDEX, "slack(7)", () -> x.slack(7));
        Kit.refused(x, INDEX, "slack(-1)", () -> x.slack(-1));
    }

    static void promise14IsKept() {
        SpanTimetable x = Kit.made(TRIANGLE + "span a b 3 3;span a b 4 4;span a b 2 2;span a b 4 13;");
        boolean[] due = {true, true, true, false, true, false, false, true};
        for (int span = 0; span < due.length; span++) {
            equal("isKept(" + span + ")", due[span], x.isKept(span));
        }
        Kit.refused(x, INDEX, "isKept(8)", () -> x.isKept(8));
        Kit.refused(x, INDEX, "isKept(-1)", () -> x.isKept(-1));
    }

    static void promise15Broken() {
        equal("one broken", 1, Kit.made(TRIANGLE).broken());
        equal("none broken", 0, Kit.made(LOOSE).broken());
        equal("ten broken", 10, Kit.made(CROWD).broken());
        equal("without spans", 0, Kit.made(THREE).broken());
    }

    static void promise16FirstBroken() {
        equal("the last one", 3, Kit.made(TRIANGLE).firstBroken());
        equal("span 0", 0, Kit.made(THREE + "span a b 4 4;").firstBroken());
        equal("the first of several", 1, Kit.made(THREE + "span a b 3 3;span a b 4 4;span a b 3 3;span a b 5 5;").firstBroken());
        SpanTimetable x = Kit.made(LOOSE);
        Kit.refused(x, NOTHING_THERE, "firstBroken()", () -> x.firstBroken());
        SpanTimetable y = new SpanTimetable();
        Kit.refused(y, NOTHING_THERE, "firstBroken() without spans", () -> y.firstBroken());
    }

    static void promise17Cost() {
        equal("cost", 2 * 1 + 1 + 3 * 2, Kit.made(TRIANGLE).cost());
        equal("broken spans count, too", 20 * 9, Kit.made(THREE + "span a b 4 4 20;").cost());
        equal("without spans", 0, Kit.made(THREE).cost());
    }

    static void promise18MeanSlack() {
        equal("mean", 9f / 6f, Kit.made(TRIANGLE).meanSlack());
        equal("a mean that is no short fraction", 11f / 7f, Kit.made(THREE + "span a b 2 4 3;span b c 2 4 4;").meanSlack());
        equal("a WEIGHT of 1", 2f, Kit.made(THREE + "span a b 1 4;").meanSlack());
        equal("weights of 0", 0f, Kit.made(THREE + "span a b 1 4 0;").meanSlack());
        equal("without spans", 0f, Kit.made(THREE).meanSlack());
    }

    static void promise19Allowed() {
        SpanTimetable x = Kit.made(LOOSE);
        equal("told, a and b", 3, x.allowed(0, 1, false));
        equal("told, b and a", 3, x.allowed(1, 0, false));
        equal("told twice, a and c", 2, x.allowed(0, 2, false));
        equal("the same event", 1, x.allowed(2, 2, false));
        equal("the same event, tightened", 1, x.allowed(2, 2, true));
        SpanTimetable y = Kit.made(THREE + "span a b 2 2;span b c 3 4;");
        equal("told, not joined", 10, y.allowed(0, 2, false));
        equal("tightened over b", 2, y.allowed(0, 2, true));
        equal("tightened over b, back", 2, y.allowed(2, 0, true));
        SpanTimetable z = Kit.made(THREE + "span a b 2 2;span b a 2 2;");
        equal("told, none", 0, z.allowed(1, 0, false));
        equal("told, all", 10, z.allowed(1, 2, false));
        equal("an empty set empties the others", 0, z.allowed(1, 2, true));
        Kit.refused(x, INDEX, "allowed(3, 0)", () -> x.allowed(3, 0, false));
        Kit.refused(x, INDEX, "allowed(0, 3)", () -> x.allowed(0, 3, true));
        Kit.refused(x, INDEX, "allowed(-1, 0)", () -> x.allowed(-1, 0, true));
        Kit.refused(x, INDEX, "allowed(0, -1)", () -> x.allowed(0, -1, false));
    }

    static void promise20IsAllowed() {
        SpanTimetable x = Kit.made(THREE + "span a b 2 2;span b c 3 4;");
        String due = "0001100000";
        for (int d = 0; d < 10; d++) {
            equal("isAllowed(1, 2, " + d + ")", due.charAt(d) == '1', x.isAllowed(1, 2, d));
            equal("isAllowed(2, 1, -" + d + ")", due.charAt(d) == '1', x.isAllowed(2, 1, (10 - d) % 10));
            equal("isAllowed(0, 2, 2 + " + d + ")", due.charAt(d) == '1', x.isAllowed(0, 2, (2 + d) % 10));
            equal("isAllowed(1, 1, " + d + ")", d == 0, x.isAllowed(1, 1, d));
        }
        Kit.refused(x, INDEX, "isAllowed(3, 0, 0)", () -> x.isAllowed(3, 0, 0));
        Kit.refused(x, INDEX, "isAllowed(0, 3, 10): the index first", () -> x.isAllowed(0, 3, 10));
        Kit.refused(x, INDEX, "isAllowed(-1, 0, 0)", () -> x.isAllowed(-1, 0, 0));
        Kit.refused(x, ARGUMENT, "isAllowed(0, 1, 10)", () -> x.isAllowed(0, 1, 10));
        Kit.refused(x, ARGUMENT, "isAllowed(0, 0, 10)", () -> x.isAllowed(0, 0, 10));
        Kit.refused(x, ARGUMENT, "isAllowed(0, 1, -1)", () -> x.isAllowed(0, 1, -1));
    }

    static void promise21Rounds() {
        equal("without events", 1, new SpanTimetable().rounds());
        equal("two events", 1, Kit.made("period 5;event a 0;event b 1;span a b 1 1;span a b 2 2;").rounds());
        equal("nothing to tighten", 1, Kit.made(THREE).rounds());
        equal("one round that tightens", 2, Kit.made(THREE + "span a b 2 2;span b c 3 4;").rounds());
        equal("a chain", 2, Kit.made(SIX + "span b d 0 0;span d c 0 0;span c e 0 0;").rounds());
        String four = "event a 0;event b 0;event c 0;event d 0;";
        equal("three rounds", 3, Kit.made("period 7;" + four + "span c d 2 2;span b a 3 6;span d b 5 8;span b c 5 9;").rounds());
        equal("four rounds", 4, Kit.made("period 11;" + four + "span c d 5 7;span a b 4 13;span a d 0 7;span d a 1 6;"
                + "span a c 7 11;span d a 1 6;span c b 9 14;span b d 0 8;").rounds());
    }

    static void promise22IsTight() {
        equal("without events", true, new SpanTimetable().isTight());
        equal("solvable", true, Kit.made(LOOSE).isTight());
        equal("an empty set at first", false, Kit.made(TRIANGLE).isTight());
        equal("an empty set of two events", false, Kit.made("period 5;event a 0;event b 1;span a b 1 1;span b a 1 1;").isTight());
        equal("empty in the end", false, Kit.made(THREE + "span a b 1 1;span b c 1 1;span c a 1 1;").isTight());
        equal("tight, but not solvable", true, Kit.made(CROWD).isTight());
    }

    static void promise23Bound() {
        SpanTimetable x = Kit.made(THREE + "span a b 2 4;span b c 3 5;span a c 8 17;span c a 12 12;span b a 46 48;");
        // c - a is 8 and b - a is 3..5, of which the last span keeps 2..4
        String[] due = {"3 4", "4 5", "8 8", "12 12", "46 47"};
        for (int span = 0; span < due.length; span++) {
            equal("bounds of " + span, due[span], x.bound(span, false) + " " + x.bound(span, true));
        }
        SpanTimetable y = Kit.made(TRIANGLE);
        Kit.refused(y, INDEX, "bound(4)", () -> y.bound(4, true));
        Kit.refused(y, INDEX, "bound(-1)", () -> y.bound(-1, false));
        Kit.refused(y, NOTHING_THERE, "bound(0)", () -> y.bound(0, false));
        Kit.refused(y, NOTHING_THERE, "bound(3)", () -> y.bound(3, true));
    }

    static void promise24Cycles() {
        equal("of four cycles", 4, Kit.made(RINGS).cycles());
        equal("of two", 2, Kit.made(TRIANGLE).cycles());
        equal("of a forest", 0, Kit.made(THREE + "span a b 1 1;span c b 1 1;").cycles());
        equal("of nothing", 0, new SpanTimetable().cycles());
        equal("of 14 spans of two events", 13, Kit.made(SIX + "span a b 0 0;".repeat(14)).cycles());
    }

    static void promise25CycleLength() {
        SpanTimetable x = Kit.made(RINGS);
        int[] due = {4, 3, 2, 2};
        for (int cycle = 0; cycle < due.length; cycle++) {
            equal("cycleLength(" + cycle + ")", due[cycle], x.cycleLength(cycle));
        }
        String chain = SIX + "span a b 0 0;span b c 0 0;span c d 0 0;span d e 0 0;span f e 0 0;span a f 0 0;";
        equal("the longest", 6, Kit.made(chain).cycleLength(0));
        Kit.refused(x, INDEX, "cycleLength(4)", () -> x.cycleLength(4));
        Kit.refused(x, INDEX, "cycleLength(-1)", () -> x.cycleLength(-1));
    }

    static void promise26CycleSpan() {
        SpanTimetable x = Kit.made(RINGS);
        int[][] due = {{3, 0, 2, 1}, {5, 2, 0}, {6, 4}, {7, 0}};
        for (int cycle = 0; cycle < due.length; cycle++) {
            for (int step = 0; step < due[cycle].length; step++) {
                equal("cycleSpan(" + cycle + ", " + step + ")", due[cycle][step], x.cycleSpan(cycle, step));
            }
        }
        Kit.refused(x, INDEX, "cycleSpan(4, 0)", () -> x.cycleSpan(4, 0));
        Kit.refused(x, INDEX, "cycleSpan(-1, 0)", () -> x.cycleSpan(-1, 0));
        Kit.refused(x, INDEX, "cycleSpan(0, 4)", () -> x.cycleSpan(0, 4));
        Kit.refused(x, INDEX, "cycleSpan(1, 3)", () -> x.cycleSpan(1, 3));
        Kit.refused(x, INDEX, "cycleSpan(0, -1)", () -> x.cycleSpan(0, -1));
    }

    static void promise27IsForward() {
        SpanTimetable x = Kit.made(RINGS);
        boolean[][] due = {{true, true, false, false}, {true, true, false}, {true, true}, {true, true}};
        for (int cycle = 0; cycle < due.length; cycle++) {
            for (int step = 0; step < due[cycle].length; step++) {
                equal("isForward(" + cycle + ", " + step + ")", due[cycle][step], x.isForward(cycle, step));
            }
        }
        Kit.refused(x, INDEX, "isForward(4, 0)", () -> x.isForward(4, 0));
        Kit.refused(x, INDEX, "isForward(-1, 0)", () -> x.isForward(-1, 0));
        Kit.refused(x, INDEX, "isForward(2, 2)", () -> x.isForward(2, 2));
        Kit.refused(x, INDEX, "isForward(2, -1)", () -> x.isForward(2, -1));
    }

    static void promise28Turns() {
        SpanTimetable x = Kit.made(RINGS);
        // Durations: 1, 5, 7, 1, 8, 4, 2, 9.
        int[][] due = {{-1, -1, -1}, {1, 1, 1}, {1, 1, 1}, {1, 1, 1}};
        for (int cycle = 0; cycle < due.length; cycle++) {
            for (int what = 0; what < 3; what++) {
                equal("turns(" + cycle + ", " + what + ")", due[cycle][what], x.turns(cycle, what));
            }
        }
        SpanTimetable y = Kit.made("period 5;event a 0;event b 0;span a b 20 24;span a b 0 2;span b a 7 11;span a b 1 1;");
        equal("turns below 0", "-4 -4 -4", y.turns(0, 0) + " " + y.turns(0, 1) + " " + y.turns(0, 2));
        equal("turns above 0", "6 6 7", y.turns(1, 0) + " " + y.turns(1, 1) + " " + y.turns(1, 2));
        equal("turns of a cycle that cannot be", "-3 -4 -4", y.turns(2, 0) + " " + y.turns(2, 1) + " " + y.turns(2, 2));
        Kit.refused(x, INDEX, "turns(4, 0)", () -> x.turns(4, 0));
        Kit.refused(x, INDEX, "turns(-1, 3): the index first", () -> x.turns(-1, 3));
        Kit.refused(x, ARGUMENT, "turns(0, 3)", () -> x.turns(0, 3));
        Kit.refused(x, ARGUMENT, "turns(0, -1)", () -> x.turns(0, -1));
    }

    static void promise29FirstImpossible() {
        equal("the first cycle", 0, Kit.made(THREE + "span a b 1 1;span a b 2 2;span a b 3 3;").firstImpossible());
        equal("a later cycle", 1, Kit.made(THREE + "span a b 1 2;span a b 2 2;span a b 3 3;").firstImpossible());
        SpanTimetable x = Kit.made(LOOSE);
        Kit.refused(x, NOTHING_THERE, "firstImpossible()", () -> x.firstImpossible());
        SpanTimetable y = new SpanTimetable();
        Kit.refused(y, NOTHING_THERE, "firstImpossible() of nothing", () -> y.firstImpossible());
    }

    static void promise30IsSolvable() {
        equal("without events", true, new SpanTimetable().isSolvable());
        equal("without spans", true, Kit.made(SIX).isSolvable());
        equal("solvable", true, Kit.made(LOOSE).isSolvable());
        equal("not solvable", false, Kit.made(TRIANGLE).isSolvable());
        equal("not solvable, though tight", false, Kit.made(CROWD).isSolvable());
        SpanTimetable x = Kit.made(CROWD);
        String before = Kit.state(x);
        x.isSolvable();
        equal("nothing changes", before, Kit.state(x));
        x.removeSpan(9);
        equal("solvable without the last span", true, x.isSolvable());
    }

    static void promise31LeastCost() {
        SpanTimetable x = Kit.made(LOOSE);
        String before = Kit.state(x);
        equal("least cost", 2 * 1 + 2 + 3 * 1, x.leastCost());
        equal("nothing changes", before, Kit.state(x));
        equal("no edit is remembered", SpanTimetable.NONE, x.undo());
        equal("without events", 0, new SpanTimetable().leastCost());
        equal("without spans", 0, Kit.made(SIX).leastCost());
        equal("costs of two ways against one another", 14 * 3, Kit.made("period 24;event a 0;event b 0;span a b 5 28 3;span b a 5 28 3;").leastCost());
        SpanTimetable y = Kit.made(TRIANGLE);
        Kit.refused(y, NOTHING_THERE, "leastCost()", () -> y.leastCost());
        SpanTimetable z = Kit.made(CROWD);
        Kit.refused(z, NOTHING_THERE, "leastCost() though tight", () -> z.leastCost());
    }

    static void promise32CostIf() {
        SpanTimetable x = Kit.made(TRIANGLE);
        String before = Kit.state(x);
        equal("costIf(1, 2)", 0 + 2 + 6, x.costIf(1, 2));
        equal("costIf(1, 3): as it is", 9, x.costIf(1, 3));
        equal("costIf(1, 0)", 2 * 8 + 4 + 6, x.costIf(1, 0));
        equal("costIf(0, 9)", 2 * 2 + 1 + 3 * 1, x.costIf(0, 9));
        equal("nothing changes", before, Kit.state(x));
        equal("no edit is remembered", SpanTimetable.NONE, x.undo());
        Kit.refused(x, INDEX, "costIf(3, 0)", () -> x.costIf(3, 0));
        Kit.refused(x, INDEX, "costIf(-1, 10): the index first", () -> x.costIf(-1, 10));
        Kit.refused(x, ARGUMENT, "costIf(0, 10)", () -> x.costIf(0, 10));
        Kit.refused(x, ARGUMENT, "costIf(0, -1)", () -> x.costIf(0, -1));
    }

    static void promise33CanRaise() {
        SpanTimetable x = Kit.made(LOOSE);
        String before = Kit.state(x);
        int[] due = {2, 2, 2, 3};
        for (int span = 0; span < due.length; span++) {
            equal("canRaise(" + span + ")", due[span], x.canRaise(span));
        }
        equal("nothing changes", before, Kit.state(x));
        equal("no edit is remembered", SpanTimetable.NONE, x.undo());
        equal("1 at the most", 1, Kit.made(THREE + "span a b 2 5;span a b 2 3;").canRaise(0));
        equal("0 at the most", 0, Kit.made(THREE + "span a b 2 5;span a b 2 2;").canRaise(0));
        equal("HIGH is LOW", 0, Kit.made(THREE + "span a b 2 2;").canRaise(0));
        equal("above 48", 9, Kit.made(THREE + "span a b 48 57;").canRaise(0));
        equal("not solvable", SpanTimetable.NONE, Kit.made(TRIANGLE).canRaise(1));
        equal("tight, but not solvable", SpanTimetable.NONE, Kit.made(CROWD).canRaise(0));
        Kit.refused(x, INDEX, "canRaise(4)", () -> x.canRaise(4));
        Kit.refused(x, INDEX, "canRaise(-1)", () -> x.canRaise(-1));
    }

    static void promise34IsCritical() {
        SpanTimetable x = Kit.made(TRIANGLE);
        String before = Kit.state(x);
        boolean[] due = {false, false, true, true};
        for (int span = 0; span < due.length; span++) {
            equal("isCritical(" + span + ")", due[span], x.isCritical(span));
        }
        equal("nothing changes", before, Kit.state(x));
        equal("no edit is remembered", SpanTimetable.NONE, x.undo());
        equal("solvable", false, Kit.made(LOOSE).isCritical(0));
        equal("each of the crowd", true, Kit.made(CROWD).isCritical(9));
        equal("not solvable without it either", false, Kit.made(TRIANGLE + "span a b 9 9;").isCritical(3));
        Kit.refused(x, INDEX, "isCritical(4)", () -> x.isCritical(4));
        Kit.refused(x, INDEX, "isCritical(-1)", () -> x.isCritical(-1));
    }

    private static void shares(String spans, int amount, int... due) {
        SpanTimetable x = Kit.made(THREE + spans);
        String before = Kit.state(x);
        for (int span = 0; span < due.length; span++) {
            equal("share(" + span + ", " + amount + ") of " + spans, due[span], x.share(span, amount));
        }
        equal("nothing changes", before, Kit.state(x));
    }

    static void promise35Share() {
        shares("span a b 1 1 2;span a b 1 1;span a b 1 1 3;span a b 1 1 0;", 10, 3, 2, 5, 0);
        shares("span a b 1 1;span a b 1 1;span a b 1 1;", 2, 1, 1, 0);
        shares("span a b 1 1;span a b 1 1;span a b 1 1;", 3, 1, 1, 1);
        shares("span a b 1 1;span a b 1 1;span a b 1 1;", 0, 0, 0, 0);
        shares("span a b 1 1 1;span a b 1 1 5;span a b 1 1 5;", 2, 0, 1, 1);
        shares("span a b 1 1 20;span a b 1 1 19;", 999, 512, 487);
        shares("span a b 1 1 0;span a b 1 1 0;", 999, 0, 0);
        shares("span a b 1 1 0;span a b 1 1 1;", 999, 0, 999);
        SpanTimetable x = Kit.made(TRIANGLE);
        Kit.refused(x, INDEX, "share(4, 0)", () -> x.share(4, 0));
        Kit.refused(x, INDEX, "share(-1, 1000): the index first", () -> x.share(-1, 1000));
        Kit.refused(x, ARGUMENT, "share(0, 1000)", () -> x.share(0, 1000));
        Kit.refused(x, ARGUMENT, "share(0, -1)", () -> x.share(0, -1));
        SpanTimetable y = Kit.made(THREE + "span a b 1 1 0;");
        Kit.refused(y, ARGUMENT, "share(0, 1000) of weights of 0", () -> y.share(0, 1000));
    }

    static void promise36Move() {
        SpanTimetable x = Kit.made(TRIANGLE);
        equal("move(2, 6)", 1, x.move(2, 6));
        equal("times", "0 3 6", Kit.times(x));
        equal("move(0, 5)", 3, x.move(0, 5));
        equal("times then", "5 3 6", Kit.times(x));
        equal("move to where it is", 3, x.move(0, 5));
        equal("move to 0", 1, x.move(0, 0));
        equal("undo", 3, x.undo());
        equal("undo", 2, x.undo());
        equal("undo again", 1, x.undo());
        equal("times before", "0 3 6", Kit.times(x));
        Kit.refused(x, INDEX, "move(3, 0)", () -> x.move(3, 0));
        Kit.refused(x, INDEX, "move(-1, 10): the index first", () -> x.move(-1, 10));
        Kit.refused(x, ARGUMENT, "move(0, 10)", () -> x.move(0, 10));
        Kit.refused(x, ARGUMENT, "move(0, -1)", () -> x.move(0, -1));
        equal("refused moves are no edits", 0, x.undo());
    }

    static void promise37Shift() {
        SpanTimetable x = Kit.made(TRIANGLE);
        equal("shift(4)", 4, x.shift(4));
        equal("times", "4 7 1", Kit.times(x));
        equal("shift(-5)", 9, x.shift(-5));
        equal("shift(0)", 9, x.shift(0));
        equal("shift(MAX)", 6, x.shift(MOST));
        equal("shift(MIN)", 8, x.shift(LEAST));
        equal("times then", "8 1 5", Kit.times(x));
        equal("the cost stays", 9, x.cost());
        equal("undo", 4, x.undo());
        equal("undo", 3, x.undo());
        equal("times before", "9 2 6", Kit.times(x));
        equal("of one event", 1, Kit.made("period 4;event a 3;").shift(2));
        SpanTimetable y = new SpanTimetable();
        equal("without events", SpanTimetable.NONE, y.shift(1));
        equal("without events, an edit as well", 0, y.undo());
    }

    static void promise38SetSpan() {
        SpanTimetable x = Kit.made(TRIANGLE);
        equal("setSpan(0, 4, 13)", 13, x.setSpan(0, 4, 13));
        equal("setSpan(3, 48, 48)", 57, x.setSpan(3, 48, 48));
        equal("setSpan(1, 0, 0)", 4, x.setSpan(1, 0, 0));
        equal("spans", "0 1 4 13 2; 1 2 0 0 1; 2 0 1 3 3; 0 2 48 48 0", Kit.spans(x));
        equal("undo", 2, x.undo());
        equal("spans before", "0 1 4 13 2; 1 2 3 5 1; 2 0 1 3 3; 0 2 48 48 0", Kit.spans(x));
        Kit.refused(x, INDEX, "setSpan(4, 0, 0)", () -> x.setSpan(4, 0, 0));
        Kit.refused(x, INDEX, "setSpan(-1, 0, 99): the index first", () -> x.setSpan(-1, 0, 99));
        Kit.refused(x, ARGUMENT, "setSpan(0, -1, 0)", () -> x.setSpan(0, -1, 0));
        Kit.refused(x, ARGUMENT, "setSpan(0, 49, 49)", () -> x.setSpan(0, 49, 49));
        Kit.refused(x, ARGUMENT, "setSpan(0, 4, 3)", () -> x.setSpan(0, 4, 3));
        Kit.refused(x, ARGUMENT, "setSpan(0, 4, 14)", () -> x.setSpan(0, 4, 14));
        Kit.refused(x, ARGUMENT, "setSpan(0, MAX, MAX)", () -> x.setSpan(0, MOST, MOST));
        Kit.refused(x, ARGUMENT, "setSpan(0, MIN, 0)", () -> x.setSpan(0, LEAST, 0));
        equal("refused ones are no edits", 1, x.undo());
    }

    static void promise39SetWeight() {
        SpanTimetable x = Kit.made(TRIANGLE);
        equal("setWeight(0, 20)", 2, x.setWeight(0, 20));
        equal("setWeight(0, 0)", 20, x.setWeight(0, 0));
        equal("setWeight(3, 7)", 0, x.setWeight(3, 7));
        equal("spans", "0 1 2 4 0; 1 2 3 5 1; 2 0 1 3 3; 0 2 5 6 7", Kit.spans(x));
        x.undo();
        equal("undo", 1, x.undo());
        equal("spans before", "0 1 2 4 20; 1 2 3 5 1; 2 0 1 3 3; 0 2 5 6 0", Kit.spans(x));
        Kit.refused(x, INDEX, "setWeight(4, 0)", () -> x.setWeight(4, 0));
        Kit.refused(x, INDEX, "setWeight(-1, 21): the index first", () -> x.setWeight(-1, 21));
        Kit.refused(x, ARGUMENT, "setWeight(0, 21)", () -> x.setWeight(0, 21));
        Kit.refused(x, ARGUMENT, "setWeight(0, -1)", () -> x.setWeight(0, -1));
        equal("refused ones are no edits", 0, x.undo());
    }

    static void promise40AddSpan() {
        SpanTimetable x = Kit.made(THREE);
        equal("addSpan", 0, x.addSpan(2, 0, 48, 57, 20));
        equal("addSpan again", 1, x.addSpan(0, 1, 0, 0, 0));
        equal("spans", "2 0 48 57 20; 0 1 0 0 0", Kit.spans(x));
        Kit.refused(x, INDEX, "from 3", () -> x.addSpan(3, 0, 0, 0, 0));
        Kit.refused(x, INDEX, "to 3", () -> x.addSpan(0, 3, 0, 0, 0));
        Kit.refused(x, INDEX, "from -1", () -> x.addSpan(-1, 0, 0, 0, 0));
        Kit.refused(x, INDEX, "to -1: the index first", () -> x.addSpan(0, -1, -1, 99, 99));
        Kit.refused(x, INDEX, "the same event that is not there", () -> x.addSpan(3, 3, 0, 0, 0));
        Kit.refused(x, ARGUMENT, "low -1", () -> x.addSpan(0, 1, -1, 0, 0));
        Kit.refused(x, ARGUMENT, "low 49", () -> x.addSpan(0, 1, 49, 49, 0));
        Kit.refused(x, ARGUMENT, "high below low", () -> x.addSpan(0, 1, 4, 3, 0));
        Kit.refused(x, ARGUMENT, "high above low + 9", () -> x.addSpan(0, 1, 4, 14, 0));
        Kit.refused(x, ARGUMENT, "weight -1", () -> x.addSpan(0, 1, 4, 4, -1));
        Kit.refused(x, ARGUMENT, "weight 21", () -> x.addSpan(0, 1, 4, 4, 21));
        Kit.refused(x, ARGUMENT, "the same event", () -> x.addSpan(1, 1, 4, 4, 1));
        for (int span = 2; span < 14; span++) {
            equal("addSpan", span, x.addSpan(0, 1, 1, 9, 1));
        }
        Kit.refused(x, STATE, "a 15th span", () -> x.addSpan(0, 1, 1, 9, 1));
        Kit.refused(x, ARGUMENT, "a 15th span: the argument first", () -> x.addSpan(0, 1, 1, 11, 1));
        Kit.refused(x, ARGUMENT, "a 15th span of one event", () -> x.addSpan(1, 1, 1, 1, 1));
        Kit.refused(x, INDEX, "a 15th span: the index first", () -> x.addSpan(0, 3, 1, 9, 1));
        equal("undo", 9, x.undo());
        equal("spans after undo", 13, x.spans());
        equal("addSpan after undo", 13, x.addSpan(1, 0, 2, 3, 4));
    }

    static void promise41RemoveSpan() {
        SpanTimetable x = Kit.made(TRIANGLE);
        equal("removeSpan(1)", 3, x.removeSpan(1));
        equal("spans", "0 1 2 4 2; 2 0 1 3 3; 0 2 5 6 0", Kit.spans(x));
        equal("removeSpan(2)", 2, x.removeSpan(2));
        equal("removeSpan(0)", 1, x.removeSpan(0));
        equal("spans then", "2 0 1 3 3", Kit.spans(x));
        equal("removeSpan(0)", 0, x.removeSpan(0));
        Kit.refused(x, INDEX, "removeSpan(0)", () -> x.removeSpan(0));
        equal("undo", 3, x.undo());
        Kit.refused(x, INDEX, "removeSpan(1)", () -> x.removeSpan(1));
        Kit.refused(x, INDEX, "removeSpan(-1)", () -> x.removeSpan(-1));
        x.undo();
        x.undo();
        equal("undo of all", 0, x.undo());
        equal("spans before", "0 1 2 4 2; 1 2 3 5 1; 2 0 1 3 3; 0 2 5 6 0", Kit.spans(x));
        SpanTimetable y = Kit.made(SIX + "span a b 0 0;".repeat(13) + "span a c 0 0;");
        equal("of 14 spans", 13, y.removeSpan(0));
        equal("the last one", 2, y.span(12, 1));
    }

    static void promise42SetPeriod() {
        SpanTimetable x = Kit.made(TRIANGLE);
        equal("setPeriod(24)", 10, x.setPeriod(24));
        equal("times", "0 3 7", Kit.times(x));
        equal("setPeriod(3)", 24, x.setPeriod(3));
        equal("times modulo 3", "0 0 1", Kit.times(x));
        equal("duration", 3, x.duration(0));
        Kit.refused(x, STATE, "setPeriod(2)", () -> x.setPeriod(2));
        Kit.refused(x, ARGUMENT, "setPeriod(1): the argument first", () -> x.setPeriod(1));
        Kit.refused(x, ARGUMENT, "setPeriod(25)", () -> x.setPeriod(25));
        Kit.refused(x, ARGUMENT, "setPeriod(MIN)", () -> x.setPeriod(LEAST));
        equal("setPeriod as it is", 3, x.setPeriod(3));
        SpanTimetable y = Kit.made("period 9;event a 8;event b 0;span a b 0 0;");
        y.setPeriod(7);
        equal("the time of event 0 modulo 7", "1 0", Kit.times(y));
        equal("undo", 2, x.undo());
        equal("undo", 1, x.undo());
        equal("times before", "0 3 7", Kit.times(x));
        equal("setPeriod(2) without spans", 12, new SpanTimetable().setPeriod(2));
    }

    static void promise43Solve() {
        SpanTimetable x = Kit.made(LOOSE);
        x.shift(5);
        equal("solve", 8, x.solve());
        equal("the first: event 0 keeps its time", "5 7 2", Kit.times(x));
        equal("undo", 1, x.undo());
        equal("times before", "5 8 2", Kit.times(x));
        x.shift(2);
        x.move(1, 9);
        x.solve();
        equal("the first is not the one nearest to event 0", "7 0 4", Kit.times(x));
        SpanTimetable y = Kit.made(SIX);
        y.move(0, 3);
        y.move(5, 2);
        equal("solve without spans", 0, y.solve());
        equal("times without spans", "3 0 0 0 0 0", Kit.times(y));
        SpanTimetable none = new SpanTimetable();
        equal("solve without events", 0, none.solve());
        equal("an edit as well", 0, none.undo());
        SpanTimetable z = Kit.made(TRIANGLE);
        Kit.refused(z, NOTHING_THERE, "solve()", () -> z.solve());
        SpanTimetable w = Kit.made(CROWD);
        Kit.refused(w, NOTHING_THERE, "solve() though tight", () -> w.solve());
        equal("refused ones are no edits", SpanTimetable.NONE, w.undo());
    }

    static void promise44Cheapen() {
        SpanTimetable x = Kit.made(LOOSE);
        equal("cheapen", 7, x.cheapen());
        equal("times", "0 3 8", Kit.times(x));
        equal("undo", 0, x.undo());
        equal("times before", "0 3 7", Kit.times(x));
        SpanTimetable y = Kit.made("period 9;event a 4;event b 8;event c 8;span a b 2 8 1;span b a 2 8 1;span a c 1 5 0;");
        equal("cheapen of several", 5, y.cheapen());
        // All of b's good times cost the same: the smallest is taken, which is 0 (4 + 5 modulo 9).
        equal("the first of several", "4 0 0", Kit.times(y));
        equal("cheapen without events", 0, new SpanTimetable().cheapen());
        SpanTimetable z = Kit.made(TRIANGLE);
        Kit.refused(z, NOTHING_THERE, "cheapen()", () -> z.cheapen());
        equal("refused ones are no edits", SpanTimetable.NONE, z.undo());
    }

    static void promise45Improve() {
        SpanTimetable x = Kit.made("period 6;event a 4;event b 3;span a b 2 2;");
        equal("one move", 1, x.improve());
        equal("the smaller event is moved", "1 3", Kit.times(x));
        equal("nothing to improve", 0, x.improve());
        equal("an edit as well", 1, x.undo());
        equal("undo of the moves", 0, x.undo());
        equal("times before", "4 3", Kit.times(x));
        SpanTimetable y = Kit.made("period 10;event a 0;event b 4;event c 9;span a b 1 3 0;span b c 1 8;span a c 2 9 5;");
        // First a to 3: none is broken then, and the cost is 24; b to 1 would leave 35. Then c to 5: 0.
        equal("two moves", 2, y.improve());
        equal("fewest broken first, then the smallest cost", "3 4 5", Kit.times(y));
        SpanTimetable z = Kit.made("period 5;event a 0;event b 4;span a b 1 3 0;span b a 1 3 0;");
        equal("one move of two that keep both spans", 1, z.improve());
        equal("the smallest time of equal ones", "1 4", Kit.times(z));
        equal("without events", 0, new SpanTimetable().improve());
        SpanTimetable w = Kit.made(CROWD);
        w.improve();
        equal("as far as it gets", 1, w.broken());
    }

    static void promise46Undo() {
        SpanTimetable x = Kit.made(TRIANGLE);
        equal("nothing to undo", SpanTimetable.NONE, x.undo());
        for (int k = 1; k <= 11; k++) {
            x.shift(1);
        }
        for (int left = 9; left >= 0; left--) {
            equal("undo", left, x.undo());
            equal("time", left % 10 + 1, (x.time(0) + 9) % 10 + 1);
        }
        equal("ten edits are remembered", SpanTimetable.NONE, x.undo());
        equal("times after the first edit", "1 4 8", Kit.times(x));
        String before = Kit.state(x);
        x.removeSpan(0);
        x.setPeriod(12);
        x.addSpan(0, 1, 40, 51, 3);
        x.setSpan(0, 1, 12);
        x.setWeight(1, 9);
        x.removeSpan(2);
        x.cheapen();
        x.solve();
        x.improve();
        x.move(1, 11);
        for (int left = 9; left >= 0; left--) {
            equal("undo of each kind", left, x.undo());
        }
        equal("all as before", before, Kit.state(x));
        equal("an edit after undo", 3, x.shift(2));
        equal("undo of it", 0, x.undo());
        equal("nothing is left", SpanTimetable.NONE, x.undo());
    }

    static void promise47Write() {
        SpanTimetable x = Kit.made("period 24;event abcdefgh 0;event b 23;event c 10;span b c 1 1;span b c 11 11;"
                + "span abcdefgh b 23 23;span c b 12 12;" + "span b c 11 34;".repeat(8) + "span c b 1 2;span c b 3 3;");
        String due = "abcdefgh=0 b=23 c=10 !0 !3 !12 !13";
        equal("write", due.length(), x.write());
        equal("output", due, Kit.output(x));
        x.move(1, 9);
        equal("an edit leaves the output", due, Kit.output(x));
        SpanTimetable y = Kit.made(LOOSE);
        equal("write of nothing broken", 11, y.write());
        equal("output of nothing broken", "a=0 b=3 c=7", Kit.output(y));
        Kit.load(y, "");
        equal("the output stays", "a=0 b=3 c=7", Kit.output(y));
        equal("write of nothing", 0, y.write());
        equal("output of nothing", "", Kit.output(y));
        StringBuilder longest = new StringBuilder("period 24;");
        for (char sign = 'a'; sign < 'g'; sign++) {
            longest.append("event ").append(String.valueOf(sign).repeat(8)).append(" 23;");
        }
        SpanTimetable z = Kit.made(longest.toString());
        for (int span = 0; span < 14; span++) {
            z.addSpan(0, 1, 1, 1, 0);
        }
        equal("the longest output", 71 + 10 * 3 + 4 * 4, z.write());
        equal("its end", "!13", Kit.output(z).substring(114));
    }

    static void promise48WriteCycle() {
        SpanTimetable x = Kit.made(RINGS);
        String[] due = {"+3+0-2-1=-1", "+5+2-0=1", "+6+4=1", "+7+0=1"};
        for (int cycle = 0; cycle < due.length; cycle++) {
            equal("writeCycle(" + cycle + ")", due[cycle].length(), x.writeCycle(cycle));
            equal("output", due[cycle], Kit.output(x));
        }
        Kit.refused(x, INDEX, "writeCycle(4)", () -> x.writeCycle(4));
        Kit.refused(x, INDEX, "writeCycle(-1)", () -> x.writeCycle(-1));
        SpanTimetable y = Kit.made("period 2;event a 0;event b 0;span a b 48 49;" + "span a b 0 1;".repeat(13));
        equal("two digits", 9, y.writeCycle(12));
        equal("output of two digits", "+13-0=-24", Kit.output(y));
        SpanTimetable z = Kit.made(THREE + "span a b 1 1;span a b 1 1;");
        z.writeCycle(0);
        equal("no turns", "+1-0=0", Kit.output(z));
    }

    static void promise48WriteCycleWithManyTurns() {
        String chain = "period 2;" + events("abcdef", 0) + chain("abcdef", "48 49");
        writesCycle(chain + "span f a 48 49;", "+5+0+1+2+3+4=144");
        writesCycle(chain + "span a f 0 1;", "+5-4-3-2-1-0=-120");
        writesCycle("period 2;" + events("acbdef", 0) + "span a b 48 49;span a c 0 0;span b d 48 49;span c d 0 0;",
                "+3-2-0+1=-48");
        String line = "period 2;" + events("abcdef", 0) + chain("abcdef", "40 41");
        writesCycle(line + "span f a 0 1;", "+5+0+1+2+3+4=100");
        writesCycle("period 2;" + events("abcde", 0) + chain("abcde", "40 41") + "span e a 38 39;", "+4+0+1+2+3=99");
        writesCycle("period 2;" + events("abcde", 0) + chain("abcde", "48 49") + "span e a 9 10;", "+4+0+1+2+3=101");
        SpanTimetable most = Kit.made("period 2;event a 0;event b 1;event c 0;event d 1;event e 0;event f 1;"
                + chain("abcdef", "48 49") + "span f a 48 49;");
        equal("the most turns of all", 16, most.writeCycle(0));
        equal("their output", "+5+0+1+2+3+4=147", Kit.output(most));
    }

    private static void writesCycle(String text, String due) {
        SpanTimetable x = Kit.made(text);
        equal(text, due.length(), x.writeCycle(0));
        equal(text, due, Kit.output(x));
        equal("turns as written", due.substring(due.indexOf('=') + 1), "" + x.turns(0, 0));
    }

    private static String events(String names, int time) {
        StringBuilder text = new StringBuilder();
        for (char name : names.toCharArray()) {
            text.append("event ").append(name).append(" ").append(time).append(";");
        }
        return text.toString();
    }

    private static String chain(String names, String durations) {
        StringBuilder text = new StringBuilder();
        for (int k = 1; k < names.length(); k++) {
            text.append("span ").append(names.charAt(k - 1)).append(" ").append(names.charAt(k));
            text.append(" ").append(durations).append(";");
        }
        return text.toString();
    }

    static void promise49Written() {
        SpanTimetable x = Kit.made(THREE);
        Kit.refused(x, INDEX, "written(0) of nothing", () -> x.written(0));
        x.write();
        equal("written(0)", 'a', x.written(0));
        equal("written(10)", '7', x.written(10));
        Kit.refused(x, INDEX, "written(11)", () -> x.written(11));
        Kit.refused(x, INDEX, "written(-1)", () -> x.written(-1));
        Kit.refused(x, INDEX, "written(MAX)", () -> x.written(MOST));
        Kit.load(x, "");
        x.write();
        Kit.refused(x, INDEX, "written(0) of an empty output", () -> x.written(0));
    }

    static void readmeExample() {
        SpanTimetable x = new SpanTimetable();
        x.feed(0x70657269, 0x6f642031, 0x303b6576, 0x656e7420, 0x6120303b);
        x.feed(0x6576656e, 0x74206220, 0x333b7370, 0x616e2061, 0x20622032);
        equal("the last feed", 60, x.feed(0x20343b20, 0x20202020, 0x20202020, 0x20202020, 0x20202020));
        equal("load", 1, x.load(43));
        equal("duration", 3, x.duration(0));
        equal("cost", 1, x.cost());
        equal("cheapen", 0, x.cheapen());
        equal("write", 7, x.write());
        equal("written", "a=0 b=2", Kit.output(x));
        equal("undo", 0, x.undo());
        equal("times after undo", "0 3", Kit.times(x));
    }
}
