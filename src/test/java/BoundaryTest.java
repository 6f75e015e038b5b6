import java.io.IOException;

/** Every sentence of the document that names a boundary, each in a test of its own. */
public final class BoundaryTest {
    private BoundaryTest() {
    }

    public static void main(String[] args) throws IOException {
        MemberBoundaries.test();
        BillBoundaries.test();
        VoteBoundaries.test();
        AmendmentBoundaries.test();
        FilibusterBoundaries.test();
        CommandBoundaries.test();
        LineBoundaries.test();
        UndoBoundaries.test();
        ParameterBoundaries.test();
        Boundaries.holdAgainstDocument();
        Check.end();
    }
}
