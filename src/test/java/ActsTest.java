/** Promises 41 to 50: acts, undoing, marks, and what is told. */
final class ActsTest {
    private final Checks checks = new Checks("ActsTest");

    private ActsTest() {
    }

    public static void main(String[] args) {
        ActsTest test = new ActsTest();
        test.lends();
        test.leaves();
        test.exchanged();
        test.days();
        test.undoes();
        test.marks();
        test.leds();
        test.sizes();
        test.troubles();
        test.checks.end();
    }

    /** Promise 41. */
    private void lends() {
        UmbrellaHeir x = Checks.told(Counties.BASE);
        checks.fine(x, "lend", x.lend(Counties.A, Counties.BOB));
        checks.due("bob has it", x.umbrella(Counties.A, 3), Counties.BOB);
        checks.due("the title stays", x.umbrella(Counties.A, 4), Counties.ANN);
        checks.refused(x, "he has it", x.lend(Counties.A, Counties.BOB), 5);
        checks.refused(x, "lend(5, 0)", x.lend(5, 0), 1);
        checks.refused(x, "lend(-1, 0)", x.lend(-1, 0), 1);
        checks.refused(x, "lend(0, 4)", x.lend(0, 4), 1);
        checks.refused(x, "lend(0, -2)", x.lend(0, -2), 1);
        checks.due("refused ones are no acts", x.size(8), 1);
        checks.fine(x, "to a careless one", x.lend(Counties.B, Counties.CAL));
        checks.due("he leaves none without a day", x.person(Counties.CAL, 1), 26);
    }

    /** Promise 42. */
    private void leaves() {
        UmbrellaHeir x = Checks.told(Counties.BASE);
        checks.fine(x, "leave", x.leave(Counties.A));
        checks.due("nobody has it", x.umbrella(Counties.A, 3), -2);
        checks.due("the title stays", x.umbrella(Counties.A, 4), Counties.ANN);
        checks.refused(x, "nobody has it", x.leave(Counties.A), 5);
        checks.refused(x, "leave(5)", x.leave(5), 1);
        checks.refused(x, "leave(-1)", x.leave(-1), 1);
        checks.due("refused ones are no acts", x.size(8), 1);
        UmbrellaHeir none = new UmbrellaHeir();
        checks.refused(none, "leave of nothing", none.leave(0), 1);
    }

    /** Promise 43. */
    private void exchanged() {
        UmbrellaHeir x = Checks.told(Counties.BASE);
        checks.fine(x, "exchange", x.exchange(Counties.B, Counties.A));
        checks.due("bob has a", x.umbrella(Counties.A, 3), Counties.BOB);
        checks.due("ann has b", x.umbrella(Counties.B, 3), Counties.ANN);
        checks.refused(x, "one has both", x.exchange(Counties.D, Counties.E), 5);
        x.leave(Counties.C);
        checks.fine(x, "what nobody has for another one", x.exchange(Counties.C, Counties.D));
        checks.due("cal has c", x.umbrella(Counties.C, 3), Counties.CAL);
        checks.due("nobody has d", x.umbrella(Counties.D, 3), -2);
        x.leave(Counties.A);
        checks.refused(x, "nobody has either", x.exchange(Counties.A, Counties.D), 5);
        checks.refused(x, "unlike", x.exchange(1, 1), 1);
        checks.refused(x, "exchange(0, 5)", x.exchange(0, 5), 1);
        checks.refused(x, "exchange(5, 0)", x.exchange(5, 0), 1);
        checks.refused(x, "exchange(-1, 0)", x.exchange(-1, 0), 1);
        checks.refused(x, "exchange(0, -1)", x.exchange(0, -1), 1);
        UmbrellaHeir none = new UmbrellaHeir();
        checks.refused(none, "exchange of nothing", none.exchange(0, 1), 1);
    }

    /** Promise 44. */
    private void days() {
        UmbrellaHeir x = Checks.told(Counties.BASE);
        x.lend(Counties.C, Counties.ANN);
        x.lend(Counties.A, Counties.KID);
        checks.fine(x, "rain: c is ann's, a stays hers as a child has it", x.day(true), 1);
        checks.due("a stays ann's", x.umbrella(Counties.A, 4), Counties.ANN);
        checks.due("c is ann's", x.umbrella(Counties.C, 4), Counties.ANN);
        checks.due("a parasol's title isn't changed by rain", x.umbrella(Counties.E, 4), Counties.CAL);
        checks.due("cal left d", x.umbrella(Counties.D, 3), -2);
        x.lend(Counties.E, Counties.BOB);
        checks.fine(x, "dry: e is bob's", x.day(false), 1);
        x.lend(Counties.B, Counties.ANN);
        checks.fine(x, "dry: no title but a parasol's", x.day(false), 0);
        checks.fine(x, "the third dry day: b, c and e are nobody's", x.day(false), 3);
        checks.due("silk stays", x.umbrella(Counties.A, 4), Counties.ANN);
        checks.due("b is nobody's", x.umbrella(Counties.B, 4), -2);
        checks.fine(x, "the fourth dry day", x.day(false), 0);
        checks.due("four dry days", x.size(7), 4);
        checks.fine(x, "rain: b and c are ann's", x.day(true), 2);
        x.lend(Counties.A, Counties.BOB);
        checks.fine(x, "rain: a is bob's", x.day(true), 1);
        checks.due("no dry day behind rain", x.size(7), 0);
        UmbrellaHeir none = new UmbrellaHeir();
        checks.refused(none, "day of nothing", none.day(true), 1);
    }

    /** Promise 45. */
    private void undoes() {
        UmbrellaHeir x = Checks.told(Counties.BASE);
        checks.refused(x, "nothing to undo", x.undo(), 6);
        x.lend(Counties.A, Counties.BOB);
        x.leave(Counties.B);
        x.exchange(Counties.C, Counties.D);
        x.day(false);
        x.day(true);
        checks.fine(x, "undo rain", x.undo());
        checks.due("one dry day again", x.size(7), 1);
        checks.due("a is ann's again", x.umbrella(Counties.A, 4), Counties.ANN);
        checks.fine(x, "undo the dry day", x.undo());
        checks.due("no dry day", x.size(7), 0);
        checks.due("what cal left", x.person(Counties.CAL, 1), 4 + 16);
        checks.fine(x, "undo the exchange", x.undo());
        checks.due("cal has d again", x.person(Counties.CAL, 1), 8 + 16);
        checks.fine(x, "undo the leaving", x.undo());
        checks.due("bob has b again", x.person(Counties.BOB, 1), 3);
        checks.fine(x, "undo the lending", x.undo());
        checks.due("ann has a again", x.person(Counties.ANN, 1), 1);
        checks.refused(x, "nothing more to undo", x.undo(), 6);
        for (int i = 0; i < 18; i++) {
            x.lend(Counties.A, i % 2 == 0 ? Counties.BOB : Counties.KID);
        }
        checks.due("16 are kept", x.size(8), 16);
        for (int i = 0; i < 16; i++) {
            checks.fine(x, "undo", x.undo());
        }
        checks.refused(x, "the 17th", x.undo(), 6);
        checks.due("as behind the second", x.umbrella(Counties.A, 3), Counties.KID);
        for (int i = 0; i < 20; i++) {
            x.day(false);
        }
        for (int i = 19; i >= 4; i--) {
            checks.fine(x, "undo a dry day", x.undo());
            checks.due("as many dry days", x.size(7), i);
        }
    }

    /** Promises 46 and 47. */
    private void marks() {
        UmbrellaHeir x = Checks.told(Counties.BASE);
        checks.refused(x, "no mark yet", x.back(0), 1);
        checks.fine(x, "the first mark", x.mark(), 0);
        x.lend(Counties.A, Counties.BOB);
        x.day(false);
        checks.fine(x, "the second mark", x.mark(), 1);
        x.day(true);
        checks.fine(x, "the third mark", x.mark(), 2);
        checks.refused(x, "no room", x.mark(), 3);
        checks.due("three marks", x.size(9), 3);
        checks.due("marks are no acts", x.size(8), 3);
        checks.fine(x, "back to the second", x.back(1));
        checks.due("bob has a", x.umbrella(Counties.A, 3), Counties.BOB);
        checks.due("a is ann's", x.umbrella(Counties.A, 4), Counties.ANN);
        checks.due("one dry day", x.size(7), 1);
        checks.refused(x, "nothing can be undone", x.undo(), 6);
        checks.due("all marks stay", x.size(9), 3);
        checks.fine(x, "back to the third", x.back(2));
        checks.due("a is bob's", x.umbrella(Counties.A, 4), Counties.BOB);
        checks.fine(x, "back to the first", x.back(0));
        checks.due("ann has a", x.umbrella(Counties.A, 3), Counties.ANN);
        checks.due("cal has d", x.umbrella(Counties.D, 3), Counties.CAL);
        x.leave(Counties.A);
        checks.refused(x, "back(3)", x.back(3), 1);
        checks.refused(x, "back(-1)", x.back(-1), 1);
        checks.due("refused, nothing goes", x.size(8), 1);
        checks.fine(x, "undo behind a mark", x.undo());
        UmbrellaHeir none = new UmbrellaHeir();
        checks.refused(none, "mark of nothing", none.mark(), 1);
    }

    /** Promise 48. */
    private void leds() {
        UmbrellaHeir x = Checks.told(Counties.BASE);
        checks.noSuch("led(0) at first", () -> x.led(0));
        x.leave(Counties.D);
        x.leave(Counties.B);
        x.leave(Counties.B);
        checks.due("led(0)", x.led(0), Counties.B);
        checks.due("led(1)", x.led(1), Counties.D);
        checks.noSuch("led(2)", () -> x.led(2));
        checks.noSuch("led(-1)", () -> x.led(-1));
        x.leave(Counties.A);
        checks.due("led(0), the very first", x.led(0), Counties.A);
        checks.due("led(2)", x.led(2), Counties.D);
        x.leave(Counties.A);
        checks.noSuch("led of the highest", () -> x.led(Integer.MAX_VALUE));
        checks.due("trouble of leave stays", x.trouble(), 5);
        UmbrellaHeir none = new UmbrellaHeir();
        checks.noSuch("led of nothing", () -> none.led(0));
    }

    /** Promise 49. */
    private void sizes() {
        UmbrellaHeir x = Checks.told(Counties.BASE + ";rain day 1;left a day 2;claims ann a day 3");
        int[] due = {3, 25, 40, 4, 5, 2, 1, 0, 0, 0, 0};
        for (int what = 0; what <= 10; what++) {
            checks.due("size " + what, x.size(what), due[what]);
        }
        x.undo();
        checks.due("size(11)", x.size(11), -1);
        checks.due("size(-1)", x.size(-1), -1);
        checks.due("size is not refused by a number", x.trouble(), 6);
        for (int day = 1; day <= 33; day++) {
            x.day(false);
            checks.due("dry days", x.size(7), Math.min(day, 30));
            checks.due("acts", x.size(8), Math.min(day, 16));
        }
        x.feed(0, 0, 0, 0, 0);
        checks.due("bytes", x.size(10), 20);
        checks.due("a new one has none", new UmbrellaHeir().size(11), -1);
    }

    /** Promise 50. */
    private void troubles() {
        UmbrellaHeir x = Checks.told(Counties.BASE);
        checks.due("not refused", x.trouble(), 0);
        x.alike(9);
        checks.due("none such", x.trouble(), 1);
        checks.due("asked again", x.trouble(), 1);
        x.fault();
        x.where();
        x.size(0);
        x.feed(0, 0, 0, 0, 0);
        checks.due("of the latest that may be refused", x.trouble(), 1);
        x.alike(0);
        checks.due("it wasn't", x.trouble(), 0);
        x.lapsed(41);
        checks.due("a number", x.trouble(), 2);
        x.county(20);
        checks.due("a fault", x.trouble(), 4);
        x.leave(0);
        x.leave(0);
        checks.due("not so", x.trouble(), 5);
        x.whole(0, 0, true);
        checks.due("whole isn't refused", x.trouble(), 0);
        x.whole(9, 0, true);
        x.allWhole(0, 0, true);
        checks.due("allWhole isn't refused", x.trouble(), 0);
    }
}
