import java.util.function.Consumer;

/** Promise 46 and EDITS: each sentence that names a boundary case, a test of its own. */
final class UndoEdges {
    private static final int NONE = SpanTimetable.NONE;
    // A good timetable that is neither the first nor the cheapest, and that one move improves.
    private static final String LOOSE = Texts.LOOSE;

    private UndoEdges() {
    }

    private static void equal(String what, Object due, Object got) {
        Kit.equal(what, due, got);
    }

    /** The edit changes what is told, and undo brings all of it back. */
    private static void undone(String text, Consumer<SpanTimetable> edit) {
        SpanTimetable x = Kit.made(text);
        String before = Kit.state(x);
        edit.accept(x);
        equal("the edit changed something", false, before.equals(Kit.state(x)));
        equal("undo", 0, x.undo());
        equal("all", Kit.everything(Kit.made(text)), Kit.everything(x));
    }

    /** The edit changes nothing that is told, and can be undone nevertheless. */
    private static void undoneThough(String text, Consumer<SpanTimetable> edit) {
        SpanTimetable x = Kit.made(text);
        x.shift(0);
        String before = Kit.state(x);
        edit.accept(x);
        equal("the edit changed nothing", before, Kit.state(x));
        equal("undo", 1, x.undo());
        equal("state", before, Kit.state(x));
        equal("undo of the edit before", 0, x.undo());
    }

    private static String first(String text) {
        SpanTimetable x = Kit.made(text);
        x.solve();
        return times(text, x);
    }

    private static String cheapest(String text) {
        SpanTimetable x = Kit.made(text);
        x.cheapen();
        return times(text, x);
    }

    /** The text with the times that the object has now. */
    private static String times(String text, SpanTimetable x) {
        String changed = text;
        for (int event = 0; event < x.events(); event++) {
            char name = (char) ('a' + event);
            changed = changed.replaceAll("event " + name + " \\d+;", "event " + name + " " + x.time(event) + ";");
        }
        return changed;
    }

    // ---- each edit

    static void moveIsUndone() {
        undone(LOOSE, x -> x.move(2, 9));
    }

    static void shiftIsUndone() {
        undone(LOOSE, x -> x.shift(3));
    }

    static void setSpanIsUndone() {
        undone(LOOSE, x -> x.setSpan(0, 1, 9));
    }

    static void setWeightIsUndone() {
        undone(LOOSE, x -> x.setWeight(3, 20));
    }

    static void addSpanIsUndone() {
        undone(LOOSE, x -> x.addSpan(0, 1, 2, 3, 4));
    }

    static void removeSpanIsUndone() {
        undone(LOOSE, x -> x.removeSpan(0));
        undone(LOOSE, x -> x.removeSpan(3));
    }

    static void removeSpanOfFourteenIsUndone() {
        undone(Texts.FULL, x -> x.removeSpan(0));
    }

    static void setPeriodIsUndone() {
        undone(LOOSE, x -> x.setPeriod(5));
    }

    static void solveIsUndone() {
        undone(LOOSE, x -> x.solve());
    }

    static void cheapenIsUndone() {
        undone(LOOSE, x -> x.cheapen());
    }

    static void improveIsUndone() {
        undone(LOOSE, x -> x.improve());
    }

    static void improveOfSeveralMovesIsOneEdit() {
        String text = "period 10;event a 0;event b 0;event c 0;event d 0;span a b 1 1;span b c 1 1;span c d 1 1;";
        equal("more than one move", true, Kit.made(text).improve() > 1);
        undone(text, x -> x.improve());
    }

    // ---- each edit, though it changes nothing

    static void moveThatChangesNothingIsUndone() {
        undoneThough(LOOSE, x -> x.move(1, 3));
    }

    static void shiftThatChangesNothingIsUndone() {
        undoneThough(LOOSE, x -> x.shift(0));
        undoneThough(LOOSE, x -> x.shift(-20));
    }

    static void shiftWithoutEventsIsUndone() {
        undoneThough("", x -> x.shift(7));
    }

    static void setSpanThatChangesNothingIsUndone() {
        undoneThough(LOOSE, x -> x.setSpan(0, 2, 4));
    }

    static void setWeightThatChangesNothingIsUndone() {
        undoneThough(LOOSE, x -> x.setWeight(0, 2));
    }

    static void setPeriodThatChangesNothingIsUndone() {
        undoneThough(LOOSE, x -> x.setPeriod(10));
        undoneThough("", x -> x.setPeriod(12));
    }

    static void solveThatChangesNothingIsUndone() {
        undoneThough(first(LOOSE), x -> x.solve());
        undoneThough("", x -> x.solve());
    }

    static void cheapenThatChangesNothingIsUndone() {
        undoneThough(cheapest(LOOSE), x -> x.cheapen());
        undoneThough("", x -> x.cheapen());
    }

    static void improveThatChangesNothingIsUndone() {
        undoneThough(cheapest(LOOSE), x -> x.improve());
        undoneThough("", x -> x.improve());
    }

    // ---- how many

    static void nothingToUndo() {
        SpanTimetable x = Kit.made(LOOSE);
        String before = Kit.state(x);
        equal("undo", -1, x.undo());
        equal("undo again", NONE, x.undo());
        equal("state", before, Kit.state(x));
    }

    static void oneEdit() {
        SpanTimetable x = Kit.made(LOOSE);
        x.shift(1);
        equal("undo", 0, x.undo());
        equal("undo again", NONE, x.undo());
    }

    static void tenEditsAreRemembered() {
        SpanTimetable x = Kit.made("period 24;event a 0;");
        for (int k = 0; k < 10; k++) {
            x.shift(1);
        }
        for (int left = 9; left >= 0; left--) {
            equal("undo", left, x.undo());
            equal("time", left, x.time(0));
        }
        equal("undo of none", NONE, x.undo());
        equal("time", 0, x.time(0));
    }

    static void eleventhEditForgetsTheFirst() {
        SpanTimetable x = Kit.made("period 24;event a 0;");
        for (int k = 0; k < 11; k++) {
            x.shift(1);
        }
        for (int left = 9; left >= 0; left--) {
            equal("undo", left, x.undo());
            equal("time", left + 1, x.time(0));
        }
        equal("undo of none", NONE, x.undo());
        equal("time behind the first edit", 1, x.time(0));
    }

    static void manyEditsLeaveTheLatestTen() {
        SpanTimetable x = Kit.made("period 24;event a 0;");
        for (int k = 0; k < 37; k++) {
            x.shift(1);
        }
        for (int left = 9; left >= 0; left--) {
            equal("undo", left, x.undo());
            equal("time", (27 + left) % 24, x.time(0));
        }
        equal("undo of none", NONE, x.undo());
    }

    static void undoneEditsAreNotUndoneAgain() {
        SpanTimetable x = Kit.made("period 24;event a 0;");
        x.move(0, 1);
        x.move(0, 2);
        equal("undo", 1, x.undo());
        x.move(0, 3);
        equal("undo", 1, x.undo());
        equal("time", 1, x.time(0));
        equal("undo", 0, x.undo());
        equal("time", 0, x.time(0));
        equal("undo", NONE, x.undo());
    }

    static void editsBehindUndoFillTheTenAgain() {
        SpanTimetable x = Kit.made("period 24;event a 0;");
        for (int k = 0; k < 10; k++) {
            x.shift(1);
        }
        for (int k = 0; k < 4; k++) {
            x.undo();
        }
        for (int k = 0; k < 5; k++) {
            x.shift(2);
        }
        int[] due = {14, 12, 10, 8, 6, 5, 4, 3, 2, 1};
        for (int k = 0; k < 10; k++) {
            equal("undo", 9 - k, x.undo());
            equal("time", due[k], x.time(0));
        }
        equal("undo of none", NONE, x.undo());
    }

    // ---- what forgets edits, and what does not

    static void legalTextForgetsAllEdits() {
        SpanTimetable x = Kit.made(LOOSE);
        x.shift(1);
        x.shift(1);
        Kit.load(x, LOOSE);
        equal("undo", NONE, x.undo());
        equal("times", "0 3 7", Kit.times(x));
    }

    static void emptyTextForgetsAllEdits() {
        SpanTimetable x = Kit.made(LOOSE);
        x.shift(1);
        x.load(0);
        equal("undo", NONE, x.undo());
        equal("events", 0, x.events());
    }

    static void illegalTextForgetsNoEdits() {
        SpanTimetable x = Kit.made(LOOSE);
        x.shift(1);
        Kit.load(x, "period 5;event ?");
        equal("undo", 0, x.undo());
        equal("times", "0 3 7", Kit.times(x));
    }

    static void loadThatThrowsForgetsNoEdits() {
        SpanTimetable x = Kit.made(LOOSE);
        x.shift(1);
        equal("load(1)", "IllegalArgumentException", Kit.thrown(() -> x.load(1)));
        equal("undo", 0, x.undo());
        equal("times", "0 3 7", Kit.times(x));
    }

    static void tenEditsBehindALegalText() {
        SpanTimetable x = Kit.made(LOOSE);
        for (int k = 0; k < 7; k++) {
            x.shift(1);
        }
        Kit.load(x, "period 24;event a 0;");
        for (int k = 0; k < 12; k++) {
            x.shift(1);
        }
        for (int left = 9; left >= 0; left--) {
            equal("undo", left, x.undo());
            equal("time", left + 2, x.time(0));
        }
        equal("undo of none", NONE, x.undo());
    }

    static void undoLeavesOutputErrorAndBuffer() {
        SpanTimetable x = Kit.made(LOOSE);
        x.write();
        Kit.load(x, "period 1;");
        x.shift(1);
        x.feed(0x70657269, 0x6f642035, 0x3b202020, 0x20202020, 0x20202020);
        x.undo();
        equal("output", "a=0 b=3 c=7", Kit.output(x));
        equal("errorPosition", 7, x.errorPosition());
        equal("load of what was fed", 0, x.load(20));
        equal("period", 5, x.period());
    }

    static void answersAreNoEdits() {
        SpanTimetable x = Kit.made(LOOSE);
        x.shift(1);
        x.isSolvable();
        x.leastCost();
        x.costIf(0, 0);
        x.canRaise(0);
        x.isCritical(0);
        x.share(0, 5);
        x.rounds();
        x.isTight();
        x.cycles();
        x.write();
        x.writeCycle(0);
        equal("undo", 0, x.undo());
    }
}
