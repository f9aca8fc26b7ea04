/** Each sentence of the document that names a boundary case, quoted, with tests of its own. */
public final class BoundariesTest {
    private BoundariesTest() {
    }

    public static void main(String[] args) {
        BoundariesOfTerms.all();
        BoundariesOfTexts.all();
        BoundariesOfPlays.all();
        BoundariesOfHouses.all();
        BoundariesOfPromises.all();
        Doc.allQuoted();
        Check.end();
    }
}
