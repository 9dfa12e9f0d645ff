/** Every sentence of the document that names a boundary case: just inside it, just outside it, empty, full, refused. */
final class EdgesTest {
    private EdgesTest() {
    }

    public static void main(String[] args) {
        Edges edges = new Edges(new Checks("EdgesTest"));
        new EdgesOfText(edges).all();
        new EdgesOfNow(edges).all();
        new EdgesOfLog(edges).all();
        new EdgesOfParty(edges).all();
        new EdgesOfLands(edges).all();
        new EdgesOfActs(edges).all();
        new EdgesOfUse(edges).all();
        edges.end();
    }
}
