/** The edges that the sentences of the document name: each sentence has a test of its own, which bears it. */
public final class BoundariesTest {
    public static void main(String[] args) {
        TermsBoundaries.all();
        RulesBoundaries.all();
        ChangesBoundaries.all();
        PointsBoundaries.all();
        ShapeBoundaries.all();
        RangesBoundaries.all();
        WindowsBoundaries.all();
        TotalsBoundaries.all();
        CommandsBoundaries.all();
        HistoryBoundaries.all();
        Sentence.allAreTested();
        Check.finish();
    }
}
