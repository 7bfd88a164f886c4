/** The texts that several suites use, and what loading a legal or an illegal one must do. */
final class Texts {
    static final String THREE = "period 10;event a 0;event b 3;event c 7;";
    // Kept: 0 (3 in 2..4), 1 (4 in 3..5), 2 (3 in 1..3); broken: 3 (7 in 5..6).
    static final String TRIANGLE = THREE + "span a b 2 4 2;span b c 3 5;span c a 1 3 3;span a c 5 6 0;";
    static final String TRIANGLE_SPANS = "0 1 2 4 2; 1 2 3 5 1; 2 0 1 3 3; 0 2 5 6 0";
    // Solvable; two pairs are joined twice.
    static final String LOOSE = THREE + "span a b 2 4 2;span b c 3 5;span c a 1 3 3;span a c 5 8 0;";
    static final String SIX = "period 4;event a 0;event b 0;event c 0;event d 0;event e 0;event f 0;";
    // Five events that must all differ modulo 4: each of three is possible, not all five.
    static final String CROWD = SIX + "span a b 1 3;span a c 1 3;span a d 1 3;span a e 1 3;span b c 1 3;"
            + "span b d 1 3;span b e 1 3;span c d 1 3;span c e 1 3;span d e 1 3;";
    // Six events and fourteen spans, all kept.
    static final String FULL = SIX + "span a f 0 3 1;".repeat(13) + "span b c 0 0 1;";
    // a-b, c-d, then b-c joins both; d-a closes a cycle of four, f-e is apart, c-a one of three.
    static final String RINGS = "period 10;event a 1;event b 2;event c 5;event d 0;event e 7;event f 9;"
            + "span a b 0 2;span d c 5 6;span c b 7 8;span d a 1 3;span f e 8 9;span a c 0 5;span e f 1 2;span b a 3 9;";

    private Texts() {
    }

    /** Loading the text answers BAD_TEXT and tells the error; what was there stays. */
    static void illegal(String text, int kind, int position) {
        SpanTimetable x = Kit.made(TRIANGLE);
        Kit.equal("load of '" + text + "'", SpanTimetable.BAD_TEXT, Kit.load(x, text));
        Kit.equal("kind in '" + text + "'", kind, x.errorKind());
        Kit.equal("position in '" + text + "'", position, x.errorPosition());
        Kit.equal("times after '" + text + "'", "0 3 7", Kit.times(x));
        Kit.equal("spans after '" + text + "'", TRIANGLE_SPANS, Kit.spans(x));
    }

    static void legal(String text, int period, String times, String spans) {
        SpanTimetable x = Kit.made(TRIANGLE);
        int due = spans.isEmpty() ? 0 : spans.split(";").length;
        Kit.equal("load of '" + text + "'", due, Kit.load(x, text));
        Kit.equal("kind in '" + text + "'", 0, x.errorKind());
        Kit.equal("position in '" + text + "'", SpanTimetable.NONE, x.errorPosition());
        Kit.equal("period in '" + text + "'", period, x.period());
        Kit.equal("times in '" + text + "'", times, Kit.times(x));
        Kit.equal("spans in '" + text + "'", spans, Kit.spans(x));
    }

    /** The text with blanks before its last byte, so that it has the given length. */
    static String stretched(String text, int length) {
        int last = text.length() - 1;
        return text.substring(0, last) + " ".repeat(length - text.length()) + text.substring(last);
    }
}
