/** Every boundary case that the document names, promises 1 to 43 and the Terms; see Edges. */
final class EdgesTest {
    public static void main(String[] args) throws Exception {
        Edges e = new Edges();
        TermEdges.all(e);
        RoomEdges.all(e);
        PeopleEdges.all(e);
        HourEdges.all(e);
        PlanEdges.all(e);
        DawnEdges.all(e);
        TextEdges.all(e);
        SheetEdges.all(e);
        ImageEdges.all(e);
        Sentences.lookUp(e);
        e.end("EdgesTest");
    }
}
