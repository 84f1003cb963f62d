/** Each sentence of the document that names a boundary case, promises 1 to 31, with runs of its own. */
public final class BoundariesTest {
    public static void main(String[] args) throws Exception {
        Boundaries at = new Boundaries();
        ToldBoundaries.go(at);
        PlacesBoundaries.go(at);
        LinksBoundaries.go(at);
        WaysBoundaries.go(at);
        FlowsBoundaries.go(at);
        NumberBoundaries.go(at);
        at.end();
    }
}
