import java.nio.charset.StandardCharsets;

/** TEXT and promises 1 to 5: each sentence that names a boundary case, a test of its own. */
final class TextEdges {
    private static final String TWO = "period 5;event a 1;event b 2;";
    private static final int NONE = SpanTimetable.NONE;

    private TextEdges() {
    }

    private static void equal(String what, Object due, Object got) {
        Kit.equal(what, due, got);
    }

    private static void feedBlanks(SpanTimetable x, int times) {
        for (int k = 0; k < times; k++) {
            x.feed(0x20202020, 0x20202020, 0x20202020, 0x20202020, 0x20202020);
        }
    }

    // ---- tokens

    static void textOf500BytesIsRead() {
        Texts.legal(Texts.stretched(Texts.TRIANGLE, 500), 10, "0 3 7", Texts.TRIANGLE_SPANS);
    }

    static void textOf500BytesIsReadToItsLastByte() {
        Texts.illegal(Texts.stretched("period 5;x", 500), 2, 499);
        Texts.illegal(Texts.stretched("period 5;-", 500), 1, 499);
    }

    static void textOf500BytesThatEndsTooEarlyHasItsErrorAt500() {
        Texts.illegal(Texts.stretched("period 5 ", 500), 2, 500);
        Texts.illegal(Texts.stretched("period 5;event\n", 500), 2, 500);
    }

    static void wordOfOneLetterIsRead() {
        Texts.legal("period 5;event a 1;event z 2;span z a 1 2;", 5, "1 2", "1 0 1 2 1");
    }

    static void wordOfEightLettersIsRead() {
        Texts.legal("period 5;event abcdefgh 1;event zzzzzzzz 2;span zzzzzzzz abcdefgh 1 2;", 5, "1 2", "1 0 1 2 1");
    }

    static void wordsOfEightLettersDifferInTheLastOne() {
        Texts.legal("period 5;event abcdefgh 1;event abcdefgi 2;", 5, "1 2", "");
    }

    static void wordOfNineLettersIsIllegal() {
        Texts.illegal("abcdefghi", 1, 0);
        Texts.illegal("period 5;event abcdefghi 1;", 1, 15);
        Texts.illegal(TWO + "span a abcdefghi 1 2;", 1, 36);
    }

    static void longerRunOfLettersIsOneToken() {
        Texts.illegal("period 5;event abcdefghijklmnopq 1;", 1, 15);
        Texts.illegal("periodperiod 5;", 1, 0);
        Texts.illegal("period 5;" + "a".repeat(491), 1, 9);
    }

    static void numberOfOneDigitIsRead() {
        Texts.legal("period 9;event a 8;", 9, "8", "");
    }

    static void numberOfTwoDigitsIsRead() {
        Texts.legal("period 09;event a 08;event b 00;", 9, "8 0", "");
    }

    static void numberOfThreeDigitsIsIllegal() {
        Texts.illegal("period 005;", 1, 7);
        Texts.illegal("period 5;event a 000;", 1, 17);
        Texts.illegal(TWO + "span a b 001 2;", 1, 38);
        Texts.illegal(TWO + "span a b 1 002;", 1, 40);
        Texts.illegal(TWO + "span a b 1 2 001;", 1, 42);
    }

    static void longerRunOfDigitsIsOneToken() {
        Texts.illegal("period 0000000000000000005;", 1, 7);
        Texts.illegal("period " + "9".repeat(493), 1, 7);
    }

    static void tokenExtendsAsFarAsPossible() {
        Texts.illegal("periodical 5;", 1, 0);
        Texts.illegal("periods 5;", 2, 0);
        Texts.illegal("period 5;eventa 1;", 2, 9);
        Texts.illegal(TWO + "spana b 1 2;", 2, 29);
        Texts.illegal(TWO + "span ab 1 2;", 4, 34);
    }

    static void tokensNeedNothingBetweenThem() {
        Texts.legal("period5;event a1;event b2;span a b3 4 5;", 5, "1 2", "0 1 3 4 5");
        Texts.illegal("period5event", 2, 7);
        Texts.illegal("period 5;event a1b;", 2, 17);
        Texts.illegal("period 5;;", 2, 9);
    }

    static void spacesAndLineFeedsMayStandBeforeTheFirstToken() {
        Texts.legal(" \n \n\n  period 5;event a 1;", 5, "1", "");
    }

    static void spacesAndLineFeedsMayStandBetweenTokens() {
        Texts.legal("period \n\n5\n;\n event\na\n 1 ;event b\n2;span\na\nb\n3\n4\n5\n;", 5, "1 2", "0 1 3 4 5");
    }

    static void spacesAndLineFeedsMayStandBehindTheLastToken() {
        Texts.legal("period 5;event a 1; \n \n\n", 5, "1", "");
    }

    static void eachByteBehindANumber() {
        for (int sign = 0; sign < 256; sign++) {
            String text = "period 5" + (char) sign;
            if (sign == ';') {
                Texts.legal(text, 5, "", "");
            } else if (sign == ' ' || sign == '\n') {
                Texts.illegal(text, 2, 9);
            } else if (sign >= '0' && sign <= '9') {
                Texts.illegal(text, 3, 7);
            } else {
                Texts.illegal(text, sign >= 'a' && sign <= 'z' ? 2 : 1, 8);
            }
        }
    }

    static void eachByteBehindAWord() {
        for (int sign = 0; sign < 256; sign++) {
            String text = "period 24;event a" + (char) sign + "1;";
            if (sign >= 'a' && sign <= 'z' || sign == ' ' || sign == '\n' || sign >= '0' && sign <= '2') {
                Texts.legal(text, 24, sign == '1' ? "11" : sign == '2' ? "21" : "1", "");
            } else if (sign >= '3' && sign <= '9') {
                Texts.illegal(text, 3, 17);
            } else {
                Texts.illegal(text, sign == ';' ? 2 : 1, 17);
            }
        }
    }

    static void eachByteAsTheFirstOne() {
        for (int sign = 0; sign < 256; sign++) {
            String text = (char) sign + "period 5;";
            if (sign == ' ' || sign == '\n') {
                Texts.legal(text, 5, "", "");
            } else {
                boolean right = sign >= 'a' && sign <= 'z' || sign >= '0' && sign <= '9' || sign == ';';
                Texts.illegal(text, right ? 2 : 1, 0);
            }
        }
    }

    // ---- statements

    static void emptyTextIsPeriod12() {
        Texts.legal("", 12, "", "");
    }

    static void textOfSpacesAndLineFeedsIsPeriod12() {
        Texts.legal(" ", 12, "", "");
        Texts.legal("\n", 12, "", "");
        Texts.legal(" \n".repeat(250), 12, "", "");
    }

    static void anyOtherTextBeginsWithPeriod() {
        Texts.illegal("event a 1;period 5;", 2, 0);
        Texts.illegal(" span a b 1 2;", 2, 1);
        Texts.illegal(";", 2, 0);
        Texts.illegal("5", 2, 0);
    }

    static void wordsOfTheStatementsAreWhole() {
        Texts.illegal("qeriod 5;", 2, 0);
        Texts.illegal("periot 5;", 2, 0);
        Texts.illegal("perio 5;", 2, 0);
        Texts.illegal("period 5;fvent a 1;", 2, 9);
        Texts.illegal("period 5;evens a 1;", 2, 9);
        Texts.illegal("period 5;even a 1;", 2, 9);
        Texts.illegal(TWO + "apan a b 1 2;", 2, 29);
        Texts.illegal(TWO + "spam a b 1 2;", 2, 29);
        Texts.illegal(TWO + "spa a b 1 2;", 2, 29);
    }

    static void noOtherStatementIsNeeded() {
        Texts.legal("period 5;", 5, "", "");
    }

    static void periodStandsOnlyOnce() {
        Texts.illegal("period 5;period 5;", 2, 9);
        Texts.illegal(TWO + "period 5;", 2, 29);
    }

    static void periodIs2To24() {
        Texts.legal("period 2;", 2, "", "");
        Texts.legal("period 24;", 24, "", "");
        Texts.illegal("period 1;", 3, 7);
        Texts.illegal("period 25;", 3, 7);
        Texts.illegal("period 0;", 3, 7);
        Texts.illegal("period 99;", 3, 7);
    }

    static void nameIsAnyWordThatIsNoEarlierName() {
        Texts.legal("period 3;event period 1;event event 2;event span 0;event e 1;event ev 2;event spanspan 0;", 3,
                "1 2 0 1 2 0", "");
        Texts.illegal("period 3;event event 1;event event 2;", 4, 29);
        Texts.illegal(TWO + "event c 0;event b 0;", 4, 45);
    }

    static void timeIs0ToPeriodMinus1() {
        Texts.legal("period 2;event a 0;event b 1;", 2, "0 1", "");
        Texts.illegal("period 2;event a 2;", 3, 17);
        Texts.legal("period 24;event a 0;event b 23;", 24, "0 23", "");
        Texts.illegal("period 24;event a 24;", 3, 18);
        Texts.illegal("period 24;event a 99;", 3, 18);
    }

    static void sixEventsAreTaken() {
        Texts.legal(Texts.SIX, 4, "0 0 0 0 0 0", "");
    }

    static void seventhEventIsAnErrorAtTheWordEvent() {
        Texts.illegal(Texts.SIX + "event g 0;", 5, Texts.SIX.length());
        Texts.illegal(Texts.SIX + "span a b 0 0; \n event", 5, Texts.SIX.length() + 16);
    }

    static void eventsAreNumberedFrom0InTheirOrder() {
        SpanTimetable x = Kit.made("period 9;event f 8;event a 7;event z 6;event b 5;event q 4;event c 3;");
        equal("times", "8 7 6 5 4 3", Kit.times(x));
        equal("the first", 0, Kit.find(x, "f"));
        equal("the last", 5, Kit.find(x, "c"));
    }

    static void spanIsFromOneEventToAnotherOne() {
        Texts.legal(TWO + "span a b 0 0;span b a 0 0;", 5, "1 2", "0 1 0 0 1; 1 0 0 0 1");
        Texts.illegal(TWO + "span a a 0 0;", 4, 36);
        Texts.illegal(TWO + "span b b 0 0;", 4, 36);
    }

    static void eventsOfASpanWereToldBefore() {
        Texts.illegal(TWO + "span c b 0 0;event c 1;", 4, 34);
        Texts.illegal(TWO + "span b c 0 0;event c 1;", 4, 36);
        Texts.legal(TWO + "event c 3;span b c 0 0;", 5, "1 2 3", "1 2 0 0 1");
    }

    static void lowIs0To48() {
        Texts.legal(TWO + "span a b 0 1;", 5, "1 2", "0 1 0 1 1");
        Texts.legal(TWO + "span a b 48 49;", 5, "1 2", "0 1 48 49 1");
        Texts.illegal(TWO + "span a b 49 49;", 3, 38);
        Texts.illegal(TWO + "span a b 99 99;", 3, 38);
    }

    static void highIsLowAtLeast() {
        Texts.legal(TWO + "span a b 3 3;", 5, "1 2", "0 1 3 3 1");
        Texts.illegal(TWO + "span a b 3 2;", 3, 40);
        Texts.legal(TWO + "span a b 48 48;", 5, "1 2", "0 1 48 48 1");
        Texts.illegal(TWO + "span a b 48 47;", 3, 41);
    }

    static void highIsLowPlusPeriodMinus1AtMost() {
        Texts.legal(TWO + "span a b 3 7;", 5, "1 2", "0 1 3 7 1");
        Texts.illegal(TWO + "span a b 3 8;", 3, 40);
        Texts.legal("period 24;event a 0;event b 0;span a b 48 71;", 24, "0 0", "0 1 48 71 1");
        Texts.illegal("period 24;event a 0;event b 0;span a b 48 72;", 3, 42);
        Texts.legal("period 2;event a 0;event b 0;span a b 0 1;", 2, "0 0", "0 1 0 1 1");
        Texts.illegal("period 2;event a 0;event b 0;span a b 0 2;", 3, 40);
    }

    static void weightIs0To20() {
        Texts.legal(TWO + "span a b 3 3 0;", 5, "1 2", "0 1 3 3 0");
        Texts.legal(TWO + "span a b 3 3 20;", 5, "1 2", "0 1 3 3 20");
        Texts.illegal(TWO + "span a b 3 3 21;", 3, 42);
        Texts.illegal(TWO + "span a b 3 3 99;", 3, 42);
    }

    static void weightIs1WithoutIt() {
        Texts.legal(TWO + "span a b 3 3 9;span a b 3 3;", 5, "1 2", "0 1 3 3 9; 0 1 3 3 1");
    }

    static void fourteenSpansAreTaken() {
        String spans = "0 5 0 3 1; ".repeat(13) + "1 2 0 0 1";
        Texts.legal(Texts.FULL, 4, "0 0 0 0 0 0", spans);
    }

    static void fifteenthSpanIsAnErrorAtTheWordSpan() {
        Texts.illegal(Texts.FULL + "span a b 0 0;", 5, Texts.FULL.length());
        Texts.illegal(Texts.FULL + " span", 5, Texts.FULL.length() + 1);
    }

    static void fullTextHasNoPlaceForAnEventEither() {
        Texts.illegal(Texts.FULL + "event", 5, Texts.FULL.length());
    }

    // ---- the error of a text

    static void errorIsTheFirstTokenThatCannotBeContinued() {
        Texts.illegal("period 1;event A 1;", 3, 7);
        Texts.illegal("period 5;event a 5;event a 1;?", 3, 17);
        Texts.illegal("x 100 ?", 2, 0);
    }

    static void wordSpanIsRightThoughThereIsNoEvent() {
        Texts.illegal("period 5;span", 2, 13);
        Texts.illegal("period 5;span a", 4, 14);
    }

    static void firstNameIsRightThoughThereIsNoOtherEvent() {
        Texts.illegal("period 5;event a 1;span a", 2, 25);
        Texts.illegal("period 5;event a 1;span a a 1 2;", 4, 26);
        Texts.illegal("period 5;event a 1;span a b 1 2;", 4, 26);
    }

    static void textThatEndsTooEarlyHasItsErrorAtItsLength() {
        String whole = "period 5;event a 1;event b 2;span a b 3 4 5;";
        int right = 0;
        for (int length = 0; length < whole.length(); length++) {
            String text = whole.substring(0, length);
            String begun = text.substring(Math.max(text.lastIndexOf(';'), text.lastIndexOf(' ')) + 1);
            if (text.isEmpty() || text.endsWith(";")) {
                right++;
                equal("load of '" + text + "'", 0, Kit.load(new SpanTimetable(), text));
            } else if (begun.matches("p|pe|per|peri|perio|e|ev|eve|even|s|sp|spa")) {
                Texts.illegal(text, 2, length - begun.length());
            } else {
                Texts.illegal(text, 2, length);
            }
        }
        equal("places where the text may end", 4, right);
    }

    static void blanksAtTheEndCountForTheLength() {
        Texts.illegal("period ", 2, 7);
        Texts.illegal("period 5 \n\n ", 2, 12);
        Texts.illegal(TWO + "span a b 1 2 3\n", 2, 44);
    }

    static void illegalTokenComesBeforeAnotherExpected() {
        Texts.illegal("100", 1, 0);
        Texts.illegal("period abcdefghi", 1, 7);
        Texts.illegal("period 5 100", 1, 9);
        Texts.illegal("period 5;event 100", 1, 15);
        Texts.illegal(TWO + "span a b 1 abcdefghi", 1, 40);
    }

    static void anotherExpectedComesBeforeRangesAndNames() {
        Texts.illegal("period 5 99;", 2, 9);
        Texts.illegal("99", 2, 0);
        Texts.illegal("period 5;event 99", 2, 15);
        Texts.illegal("period 5;event a a", 2, 17);
        Texts.illegal(TWO + "span a 99", 2, 36);
        Texts.illegal(TWO + "span a b a", 2, 38);
        Texts.illegal(TWO + "span a b 1 2 3 99", 2, 44);
    }

    static void rangeOfAWeightComesBeforeTheSemicolon() {
        Texts.illegal(TWO + "span a b 1 2 a", 2, 42);
        Texts.illegal(TWO + "span a b 1 2 21", 3, 42);
    }

    static void secondNameThatIsNoEventOrTheFirstOneIsOfKind4() {
        Texts.illegal(TWO + "span a a", 4, 36);
        Texts.illegal(TWO + "span a aa", 4, 36);
    }

    static void knownNameOfASeventhEventIsNotReached() {
        Texts.illegal(Texts.SIX + "event a 0;", 5, Texts.SIX.length());
        Texts.illegal(Texts.FULL + "span a a 0 0;", 5, Texts.FULL.length());
    }

    // ---- promise 1

    static void promise01NewObjectIsAnEmptyText() {
        SpanTimetable loaded = new SpanTimetable();
        loaded.load(0);
        equal("period", 12, new SpanTimetable().period());
        equal("all of a new object", Kit.everything(loaded), Kit.everything(new SpanTimetable()));
    }

    static void promise01NewObjectHasNothing() {
        SpanTimetable x = new SpanTimetable();
        equal("events", 0, x.events());
        equal("spans", 0, x.spans());
        equal("cycles", 0, x.cycles());
        equal("broken", 0, x.broken());
    }

    static void promise01BufferIsEmpty() {
        SpanTimetable x = new SpanTimetable();
        equal("load(1)", "IllegalArgumentException", Kit.thrown(() -> x.load(1)));
        equal("load(0)", 0, x.load(0));
    }

    static void promise01NothingIsRemembered() {
        SpanTimetable x = new SpanTimetable();
        equal("undo", NONE, x.undo());
        equal("written", "IndexOutOfBoundsException", Kit.thrown(() -> x.written(0)));
        equal("errorKind", 0, x.errorKind());
        equal("errorPosition", NONE, x.errorPosition());
    }

    static void promise01ObjectsAreApart() {
        SpanTimetable x = new SpanTimetable();
        String before = Kit.everything(new SpanTimetable());
        SpanTimetable y = Kit.lived(Texts.TRIANGLE);
        equal("another object", before, Kit.everything(x));
        equal("this object", 3, y.events());
    }

    // ---- promise 2

    static void promise02FeedTakes20BytesUpTo500() {
        SpanTimetable x = new SpanTimetable();
        for (int k = 1; k <= 25; k++) {
            equal("feed " + k, 20 * k, x.feed(0, 0, 0, 0, 0));
        }
    }

    static void promise02FeedOfAFullBufferIsFull() {
        SpanTimetable x = new SpanTimetable();
        feedBlanks(x, 25);
        equal("feed", -2, x.feed(0x20202020, 0x20202020, 0x20202020, 0x20202020, 0x20202020));
        equal("feed again", SpanTimetable.FULL, x.feed(0, 0, 0, 0, 0));
    }

    static void promise02FullAppendsNothing() {
        SpanTimetable x = new SpanTimetable();
        feedBlanks(x, 25);
        x.feed(-1, -1, -1, -1, -1);
        equal("load(501)", "IllegalArgumentException", Kit.thrown(() -> x.load(501)));
        equal("load(500) of blanks alone", 0, x.load(500));
        equal("feed when it is empty again", 20, x.feed(0, 0, 0, 0, 0));
    }

    static void promise02MostSignificantByteComesFirst() {
        SpanTimetable x = Kit.made("period 5;event abcdefgh 1;event ijklmnop 2;event dcba 3;");
        x.feed(0x61626364, 0x65666768, 0, 0, 0);
        equal("abcdefgh", 0, x.find(8));
        x.feed(0x69606a00, 0x69606a00, 0x69606a00, 0x69606a00, 0x69606a00);
        equal("another", NONE, x.find(8));
        x.feed(0x64636261, 0, 0, 0, 0);
        equal("dcba", 2, x.find(4));
    }

    static void promise02BytesOfAComeBeforeThoseOfBToE() {
        SpanTimetable x = new SpanTimetable();
        // peri od12 ;___ even t_a_
        x.feed(0x70657269, 0x6f643132, 0x3b202020, 0x6576656e, 0x74206120);
        x.feed(0x31313b0a, 0x0a0a0a0a, 0x65766520, 0x62203b20, 0x20202020);
        equal("load of the first 23 bytes", 0, x.load(23));
        equal("times", "11", Kit.times(x));
    }

    static void promise02FeedBehindABufferThatFindEmptied() {
        SpanTimetable x = new SpanTimetable();
        feedBlanks(x, 3);
        x.find(0);
        equal("feed", 20, x.feed(0, 0, 0, 0, 0));
    }

    static void promise02FeedBehindABufferThatLoadEmptied() {
        SpanTimetable x = new SpanTimetable();
        feedBlanks(x, 25);
        x.load(0);
        equal("feed", 20, x.feed(0, 0, 0, 0, 0));
        x.load(1);
        equal("feed behind an illegal text", 20, x.feed(0, 0, 0, 0, 0));
    }

    static void promise02GreatestAndLeastNumbersAreBytesToo() {
        SpanTimetable x = new SpanTimetable();
        equal("feed", 20, x.feed(Integer.MIN_VALUE, Integer.MAX_VALUE, -1, 0, 1));
        equal("load", SpanTimetable.BAD_TEXT, x.load(20));
        equal("the byte 128", "1 at 0", x.errorKind() + " at " + x.errorPosition());
        x.feed(0x2020207f, -1, -1, -1, -1);
        x.load(20);
        equal("the byte 127", "1 at 3", x.errorKind() + " at " + x.errorPosition());
    }

    static void promise02FeedChangesNothingElse() {
        SpanTimetable x = Kit.lived(Texts.TRIANGLE);
        String before = Kit.state(x);
        x.feed(1, 2, 3, 4, 5);
        equal("state", before, Kit.state(x));
        equal("undo", 2, x.undo());
    }

    // ---- promise 3

    static void promise03LengthOf0IsTaken() {
        SpanTimetable x = Kit.lived(Texts.TRIANGLE);
        equal("load(0)", 0, x.load(0));
        equal("period", 12, x.period());
    }

    static void promise03LengthOfAllBytesIsTaken() {
        SpanTimetable x = new SpanTimetable();
        Kit.feed(x, "period 5;event b   1".getBytes(StandardCharsets.ISO_8859_1));
        Kit.feed(x, ";".getBytes(StandardCharsets.ISO_8859_1));
        equal("load(40)", 0, x.load(40));
        equal("times", "1", Kit.times(x));
    }

    static void promise03OnlyTheFirstBytesAreRead() {
        SpanTimetable x = new SpanTimetable();
        Kit.feed(x, "period 12;event a 11".getBytes(StandardCharsets.ISO_8859_1));
        equal("load(10)", 0, x.load(10));
        equal("events", 0, x.events());
        Kit.feed(x, "period 12".getBytes(StandardCharsets.ISO_8859_1));
        equal("load(8)", SpanTimetable.BAD_TEXT, x.load(8));
        equal("the number ends with the text", "3 at 7", x.errorKind() + " at " + x.errorPosition());
    }

    static void promise03LoadEmptiesTheBuffer() {
        SpanTimetable x = new SpanTimetable();
        Kit.feed(x, "period 5;period 5;".getBytes(StandardCharsets.ISO_8859_1));
        x.load(9);
        equal("load(1) behind it", "IllegalArgumentException", Kit.thrown(() -> x.load(1)));
    }

    static void promise03LoadOfAnIllegalTextEmptiesTheBuffer() {
        SpanTimetable x = new SpanTimetable();
        Kit.feed(x, "period 5;period 5;".getBytes(StandardCharsets.ISO_8859_1));
        equal("load", SpanTimetable.BAD_TEXT, x.load(18));
        equal("find(1) behind it", "IllegalArgumentException", Kit.thrown(() -> x.find(1)));
    }

    static void promise03LoadAnswersTheNumberOfSpans() {
        SpanTimetable x = new SpanTimetable();
        equal("no spans", 0, Kit.load(x, Texts.THREE));
        equal("4 spans", 4, Kit.load(x, Texts.TRIANGLE));
        equal("14 spans", 14, Kit.load(x, Texts.FULL));
    }

    static void promise03IllegalTextChangesNothingButBufferAndError() {
        SpanTimetable x = Kit.lived(Texts.TRIANGLE);
        x.find(0);
        equal("load", -3, Kit.load(x, "period 7;event q 1;event r 2;span q r 1 2;event q 1;"));
        equal("errorKind", 4, x.errorKind());
        equal("a NAME of the illegal text", NONE, Kit.find(x, "q"));
        // The error that a lived object has, so that all the rest can be compared.
        Kit.load(x, "period 25;");
        SpanTimetable y = Kit.lived(Texts.TRIANGLE);
        y.find(0);
        equal("all the rest", Kit.everything(y), Kit.everything(x));
    }

    static void promise03LegalTextReplacesAll() {
        SpanTimetable x = Kit.lived(Texts.FULL);
        x.find(0);
        equal("load", 1, Kit.load(x, "period 7;event q 1;event r 2;span q r 1 2 3;"));
        equal("period", 7, x.period());
        equal("times", "1 2", Kit.times(x));
        equal("spans", "0 1 1 2 3", Kit.spans(x));
        equal("an old NAME", NONE, Kit.find(x, "a"));
        equal("no edit is left", NONE, x.undo());
    }

    // ---- promises 4 and 5

    static void promise04KindIs0WithoutLoad() {
        SpanTimetable x = new SpanTimetable();
        x.feed(-1, -1, -1, -1, -1);
        equal("errorKind", 0, x.errorKind());
        x.find(1);
        equal("errorKind after find", 0, x.errorKind());
    }

    static void promise04KindIs0IfTheOnlyLoadThrew() {
        SpanTimetable x = new SpanTimetable();
        equal("load(1)", "IllegalArgumentException", Kit.thrown(() -> x.load(1)));
        equal("errorKind", 0, x.errorKind());
    }

    static void promise04KindIs0AfterALegalText() {
        SpanTimetable x = new SpanTimetable();
        Kit.load(x, "?");
        Kit.load(x, "");
        equal("errorKind", 0, x.errorKind());
    }

    static void promise04KindStaysIfLoadThrows() {
        SpanTimetable x = new SpanTimetable();
        Kit.load(x, "?");
        equal("load(-1)", "IllegalArgumentException", Kit.thrown(() -> x.load(-1)));
        equal("errorKind", 1, x.errorKind());
    }

    static void promise04KindIsOfTheLatestLoad() {
        SpanTimetable x = new SpanTimetable();
        int[] kinds = {1, 2, 3, 4, 5, 1};
        String[] texts = {"?", "x", "period 1;", "period 5;span q", Texts.SIX + "event", "?"};
        for (int k = 0; k < kinds.length; k++) {
            Kit.load(x, texts[k]);
            equal("errorKind of " + texts[k], kinds[k], x.errorKind());
        }
    }

    static void promise05PositionIsNoneIfTheKindIs0() {
        SpanTimetable x = new SpanTimetable();
        equal("errorPosition of a new object", -1, x.errorPosition());
        Kit.load(x, "   ?");
        equal("errorPosition of an error", 3, x.errorPosition());
        Kit.load(x, "period 5;");
        equal("errorPosition of a legal text", -1, x.errorPosition());
    }

    static void promise05PositionIsTheFirstByteOfTheToken() {
        Texts.illegal("abcdefghijk", 1, 0);
        Texts.illegal("period 5;\n\nevent  eventful 12345;", 1, 27);
        Texts.illegal(TWO + "span  aaaaaaaa b 1 2;", 4, 35);
    }

    static void promise05PositionStaysIfLoadThrows() {
        SpanTimetable x = new SpanTimetable();
        Kit.load(x, "period 25;");
        equal("load(1)", "IllegalArgumentException", Kit.thrown(() -> x.load(1)));
        equal("errorPosition", 7, x.errorPosition());
    }
}
