/** Promises 24 and 28 to 30: a party in the rain. */
final class PartyTest {
    /** One place under x (1, nobody's), two under y (10, bob's); zed has none. */
    private static final String NARROW = "county lapse 3 gust 0 rains 0;person ann plain;person bob plain;person zed plain"
        + ";umbrella x stick lands 1 ribs 7 with ann;umbrella y cotton lands 10 ribs 8 with bob";

    private final Checks checks = new Checks("PartyTest");

    private PartyTest() {
    }

    public static void main(String[] args) {
        PartyTest test = new PartyTest();
        test.parties();
        test.narrow();
        test.likeOnes();
        test.rooms();
        test.guests();
        test.refusals();
        test.checks.end();
    }

    /** Promises 28 and 29. */
    private void parties() {
        UmbrellaHeir x = Checks.told(Counties.BASE);
        stand(x, 1, 0, 0, -2, -2, -2);
        stand(x, 4, 20, -2, -2, 2, -2);
        stand(x, 1 + 4, 20, 0, -2, 2, -2);
        stand(x, 15, 7, 0, 1, 3, 4);
        x.lend(Counties.A, Counties.BOB);
        // Ann has none now: with bob she stands under her own, he under his.
        stand(x, 1 + 2, 0, 0, 1, -2, -2);
        stand(x, 2, 0, -2, 1, -2, -2);
        checks.fine(x, "ann alone has no umbrella", x.party(1), -2);
        x.day(true);
        stand(x, 1 + 2, 30, 1, 0, -2, -2);
    }

    private void narrow() {
        UmbrellaHeir x = Checks.told(NARROW);
        stand(x, 7, 11, 0, 1, 1);
        stand(x, 6, 10, -2, 1, 1);
        checks.fine(x, "no room", x.party(5), -2);
        checks.refused(x, "partyOf without room", x.partyOf(5, 0), 6);
        checks.refused(x, "partyOf of one who isn't there, without room", x.partyOf(5, 1), 6);
    }

    private void likeOnes() {
        // Four umbrellas of a's with one place each, all 10 lands: the first by people's umbrellas.
        UmbrellaHeir x = Checks.told("county lapse 3 gust 0 rains 0;person k child;person a plain;person b plain"
            + ";umbrella w silk lands 10 ribs 4 with a;umbrella x silk lands 10 ribs 4 with a"
            + ";umbrella y silk lands 10 ribs 4 with a;umbrella z silk lands 10 ribs 4 with a");
        stand(x, 7, 20, 0, 1, 2);
        stand(x, 3, 10, 0, 1, -2);
        stand(x, 6, 10, -2, 0, 1);
        UmbrellaHeir y = Checks.told("county lapse 3 gust 0 rains 0;person k child;umbrella u cotton lands 2 ribs 4 with k;umbrella v cotton lands 1 ribs 4 with k");
        stand(y, 1, 1, 1);
        // Six people, five umbrellas of one place but the last, of two: f has none, and stands under the last one.
        UmbrellaHeir six = Checks.told(Counties.silks(4) + ";person e plain;person f plain;umbrella z silk lands 3 ribs 8 with e");
        stand(six, 63, 3, 0, 1, 2, 3, 4, 4);
        checks.fine(six, "not all without e", six.party(63 - 16), -2);
    }

    /** Promise 30. */
    private void rooms() {
        UmbrellaHeir x = Checks.told(Counties.BASE);
        int[] due = {0, 2, 3, 5, 3, 5, 6, 8, 2, 4, 5, 7, 5, 7, 8, 10};
        for (int people = 1; people < 16; people++) {
            checks.fine(x, "room " + people, x.room(people), due[people]);
        }
        x.leave(Counties.B);
        checks.fine(x, "nobody has b", x.room(15), 7);
        checks.fine(x, "none for bob", x.room(2), 0);
    }

    /** Promise 24. */
    private void guests() {
        UmbrellaHeir x = Checks.told(Counties.BASE);
        checks.fine(x, "the first of like ones", x.guest(1), Counties.BOB);
        checks.fine(x, "kid goes with cal", x.guest(4), Counties.CAL);
        checks.fine(x, "ann and kid with cal", x.guest(5), Counties.CAL);
        checks.fine(x, "nobody else", x.guest(15), -2);
        checks.fine(x, "ann, the first such", x.guest(2), Counties.ANN);
        checks.fine(x, "the only one else", x.guest(7), Counties.CAL);
        UmbrellaHeir narrow = Checks.told(NARROW);
        checks.fine(narrow, "not zed, for whom there is no room", narrow.guest(1), 1);
        narrow.leave(1);
        checks.fine(narrow, "room with nobody", narrow.guest(1), -2);
        checks.fine(narrow, "room by the guest's alone", narrow.guest(4), -2);
    }

    private void refusals() {
        UmbrellaHeir x = Checks.told(Counties.BASE);
        for (int people : new int[] {0, 16, -1, Integer.MIN_VALUE, Integer.MAX_VALUE}) {
            checks.refused(x, "party " + people, x.party(people), 1);
            checks.refused(x, "partyOf " + people, x.partyOf(people, 0), 1);
            checks.refused(x, "room " + people, x.room(people), 1);
            checks.refused(x, "guest " + people, x.guest(people), 1);
        }
        checks.refused(x, "partyOf(1, 4)", x.partyOf(1, 4), 1);
        checks.refused(x, "partyOf(1, -1)", x.partyOf(1, -1), 1);
        UmbrellaHeir none = new UmbrellaHeir();
        checks.refused(none, "party of nothing", none.party(1), 1);
        checks.refused(none, "partyOf of nothing", none.partyOf(1, 0), 1);
        checks.refused(none, "room of nothing", none.room(1), 1);
        checks.refused(none, "guest of nothing", none.guest(1), 1);
    }

    private void stand(UmbrellaHeir x, int people, int danger, int... umbrellas) {
        checks.fine(x, "party " + people, x.party(people), danger);
        for (int p = 0; p < umbrellas.length; p++) {
            checks.fine(x, "partyOf " + people + " " + p, x.partyOf(people, p), umbrellas[p]);
        }
    }
}
