/** Each sentence of the document that names a boundary case, with a test of its own; see also RangeTest. */
final class BoundaryTest {
    public static void main(String[] args) {
        TextBounds.test();
        RowBounds.test();
        WayBounds.test();
        FieldBounds.test();
        ActionBounds.test();
        StateBounds.test();
        Sentence.checkAllAreQuoted();
        Check.end("BoundaryTest");
    }
}
