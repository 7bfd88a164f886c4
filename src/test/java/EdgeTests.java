/** For each sentence of the document that names a boundary case, a test of its own. */
public final class EdgeTests {
    private EdgeTests() {
    }

    public static void main(String[] args) throws IllegalAccessException {
        Kit.runAll(TextEdges.class);
        Kit.runAll(ToldEdges.class);
        Kit.runAll(DifferenceEdges.class);
        Kit.runAll(CycleEdges.class);
        Kit.runAll(SearchEdges.class);
        Kit.runAll(EditEdges.class);
        Kit.runAll(UndoEdges.class);
        Kit.runAll(OutputEdges.class);
        Kit.runAll(AgainEdges.class);
        RefusedCalls.runAll();
        Kit.exit();
    }
}
