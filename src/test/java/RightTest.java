/** Promises 25 to 27: the fewest exchanges that put most right. */
final class RightTest {
    private final Checks checks = new Checks("RightTest");

    private RightTest() {
    }

    public static void main(String[] args) {
        RightTest test = new RightTest();
        test.nothingToDo();
        test.rows();
        test.notAll();
        test.whatNobodyHas();
        test.refusals();
        test.checks.end();
    }

    private void nothingToDo() {
        row(Checks.told(Counties.silks(3)), 3);
        row(Checks.told(Counties.BASE), 3);
    }

    /** The umbrellas go round among people: the i-th has that of the one behind him. */
    private static UmbrellaHeir round(int many) {
        UmbrellaHeir x = Checks.told(Counties.silks(many));
        for (int u = 0; u < many; u++) {
            x.lend(u, (u + 1) % many);
        }
        return x;
    }

    private void rows() {
        row(round(2), 2, 1);
        row(round(3), 3, 1, 2);
        row(round(4), 4, 1, 2, 3);
        row(round(5), 3, 1, 2, 3);
        UmbrellaHeir x = Checks.told(Counties.silks(4));
        x.exchange(2, 3);
        row(x, 4, 23);
        x.exchange(0, 1);
        row(x, 4, 1, 23);
        checks.due("nothing is changed by it", x.right(), 0);
        x.day(true);
        row(x, 4);
    }

    private void notAll() {
        // v and w are a's, but b has v, and c has w and his own x: a has nothing that could go for them.
        UmbrellaHeir x = Checks.told("county lapse 9 gust 0 rains 0;person a plain;person b plain;person c plain"
            + ";umbrella v silk lands 1 ribs 4 with a;umbrella w silk lands 1 ribs 4 with a;umbrella x silk lands 1 ribs 4 with c");
        x.lend(0, 1);
        x.lend(1, 2);
        row(x, 1);
        x.lend(2, 0);
        // a has x: it goes for w, and c has his own again; v stays with b.
        row(x, 2, 12);
    }

    private void whatNobodyHas() {
        UmbrellaHeir x = Checks.told(Counties.silks(2));
        x.leave(0);
        x.lend(1, 0);
        // a has w; nobody has v: a takes v for it.
        row(x, 1, 1);
        x.leave(1);
        row(x, 0);
        UmbrellaHeir y = Checks.told(Counties.silks(2));
        y.lend(0, 1);
        // One and the same has both: no exchange.
        row(y, 1);
    }

    private void refusals() {
        UmbrellaHeir x = round(2);
        checks.refused(x, "exchangeAt(1)", x.exchangeAt(1), 1);
        checks.refused(x, "exchangeAt(-1)", x.exchangeAt(-1), 1);
        checks.refused(x, "exchangeAt(3)", x.exchangeAt(3), 1);
        checks.refused(x, "exchangeAt(4)", x.exchangeAt(Integer.MAX_VALUE), 1);
        UmbrellaHeir none = new UmbrellaHeir();
        checks.refused(none, "putRight of nothing", none.putRight(), 1);
        checks.refused(none, "exchanges of nothing", none.exchanges(), 1);
        checks.refused(none, "exchangeAt of nothing", none.exchangeAt(0), 1);
    }

    private void row(UmbrellaHeir x, int right, int... exchanges) {
        checks.fine(x, "putRight", x.putRight(), right);
        checks.fine(x, "exchanges", x.exchanges(), exchanges.length);
        for (int i = 0; i < exchanges.length; i++) {
            checks.fine(x, "exchangeAt " + i, x.exchangeAt(i), exchanges[i]);
        }
        checks.refused(x, "one more", x.exchangeAt(exchanges.length), 1);
    }
}
