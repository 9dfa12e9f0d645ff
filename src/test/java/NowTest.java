/** Promises 6 to 10 and 21 to 23: what is so now, and what days would bring. */
final class NowTest {
    private final Checks checks = new Checks("NowTest");

    private NowTest() {
    }

    public static void main(String[] args) {
        NowTest test = new NowTest();
        test.umbrellas();
        test.people();
        test.alikeOnes();
        test.rightOnes();
        test.richestOne();
        test.owingOnes();
        test.changes();
        test.lapses();
        test.checks.end();
    }

    /** Promise 6. */
    private void umbrellas() {
        UmbrellaHeir x = Checks.told(Counties.BASE);
        int[][] due = {
            {0, 50, 8, Counties.ANN, Counties.ANN}, {1, 30, 12, Counties.BOB, Counties.BOB}, {1, 20, 12, Counties.KID, -2},
            {2, 7, 5, Counties.CAL, -2}, {3, 11, 4, Counties.CAL, Counties.CAL},
        };
        for (int u = 0; u < 5; u++) {
            for (int what = 0; what < 5; what++) {
                checks.fine(x, "umbrella " + u + " " + what, x.umbrella(u, what), due[u][what]);
            }
        }
        checks.refused(x, "umbrella(5, 0)", x.umbrella(5, 0), 1);
        checks.refused(x, "umbrella(-1, 0)", x.umbrella(-1, 0), 1);
        checks.refused(x, "umbrella(0, 5)", x.umbrella(0, 5), 1);
        checks.refused(x, "umbrella(0, -1)", x.umbrella(0, -1), 1);
        UmbrellaHeir y = Checks.told(Counties.SMALL + ";umbrella v cotton lands 2 ribs 4;lent v p day 0;rain day 0");
        checks.fine(y, "nobody has it now, whatever the log tells", y.umbrella(1, 3), -2);
        checks.fine(y, "nobody's title", y.umbrella(1, 4), -2);
    }

    /** Promise 7. */
    private void people() {
        UmbrellaHeir x = Checks.told(Counties.BASE);
        int[][] due = {{0, 1, 50}, {0, 2, 30}, {1, 4, 0}, {2, 24, 11}};
        for (int p = 0; p < 4; p++) {
            for (int what = 0; what < 3; what++) {
                checks.fine(x, "person " + p + " " + what, x.person(p, what), due[p][what]);
            }
        }
        x.lend(Counties.A, Counties.BOB);
        checks.fine(x, "what he has", x.person(Counties.BOB, 1), 3);
        checks.fine(x, "his lands as before", x.person(Counties.BOB, 2), 30);
        checks.refused(x, "person(4, 0)", x.person(4, 0), 1);
        checks.refused(x, "person(-1, 0)", x.person(-1, 0), 1);
        checks.refused(x, "person(0, 3)", x.person(0, 3), 1);
        checks.refused(x, "person(0, -1)", x.person(0, -1), 1);
    }

    /** Promise 8. */
    private void alikeOnes() {
        UmbrellaHeir x = Checks.told("county lapse 3 gust 0 rains 0;person p plain;umbrella a silk lands 1 ribs 8"
            + ";umbrella b silk lands 2 ribs 8;umbrella c silk lands 1 ribs 9;umbrella d cotton lands 1 ribs 8;umbrella e silk lands 3 ribs 8");
        int[] due = {18, 17, 0, 0, 3};
        for (int u = 0; u < 5; u++) {
            checks.fine(x, "alike " + u, x.alike(u), due[u]);
        }
        checks.refused(x, "alike(5)", x.alike(5), 1);
        checks.refused(x, "alike(-1)", x.alike(-1), 1);
    }

    /** Promise 9. */
    private void rightOnes() {
        UmbrellaHeir x = Checks.told(Counties.BASE);
        checks.fine(x, "right", x.right(), 1 + 2 + 16);
        x.leave(Counties.C);
        checks.fine(x, "what nobody has and is nobody's is not right", x.right(), 19);
        x.lend(Counties.A, Counties.BOB);
        checks.fine(x, "right without a", x.right(), 18);
        UmbrellaHeir none = new UmbrellaHeir();
        checks.refused(none, "right of nothing", none.right(), 1);
    }

    /** Promise 10. */
    private void richestOne() {
        UmbrellaHeir x = Checks.told(Counties.BASE);
        checks.fine(x, "richest", x.richest(), Counties.ANN);
        x.lend(Counties.A, Counties.CAL);
        x.day(true);
        checks.fine(x, "richest by rain", x.richest(), Counties.CAL);
        UmbrellaHeir alike = Checks.told(Counties.silks(3));
        checks.fine(alike, "the first of like ones", alike.richest(), 0);
        UmbrellaHeir poor = Checks.told("county lapse 1 gust 0 rains 0;person p plain;umbrella u silk lands 0 ribs 4 with p");
        checks.fine(poor, "nobody has any", poor.richest(), -2);
        UmbrellaHeir little = Checks.told(Counties.SMALL);
        checks.fine(little, "a single land", little.richest(), 0);
        UmbrellaHeir none = new UmbrellaHeir();
        checks.refused(none, "richest of nothing", none.richest(), 1);
    }

    /** Promise 21. */
    private void owingOnes() {
        UmbrellaHeir x = Checks.told(Counties.BASE);
        checks.fine(x, "owing at first", x.owing(Counties.ANN, Counties.BOB), 0);
        x.lend(Counties.A, Counties.BOB);
        x.lend(Counties.E, Counties.BOB);
        checks.fine(x, "ann's that bob has", x.owing(Counties.ANN, Counties.BOB), 1);
        checks.fine(x, "cal's that bob has", x.owing(Counties.CAL, Counties.BOB), 16);
        checks.fine(x, "not the other way round", x.owing(Counties.BOB, Counties.ANN), 0);
        x.leave(Counties.A);
        checks.fine(x, "nobody has it", x.owing(Counties.ANN, Counties.BOB), 0);
        checks.refused(x, "unlike", x.owing(1, 1), 1);
        checks.refused(x, "owing(4, 0)", x.owing(4, 0), 1);
        checks.refused(x, "owing(0, 4)", x.owing(0, 4), 1);
        checks.refused(x, "owing(-1, 0)", x.owing(-1, 0), 1);
        checks.refused(x, "owing(0, -2)", x.owing(0, -2), 1);
    }

    /** Promise 22. */
    private void changes() {
        UmbrellaHeir x = Checks.told(Counties.BASE);
        x.lend(Counties.A, Counties.BOB);
        x.lend(Counties.E, Counties.ANN);
        checks.fine(x, "bob by rain", x.change(Counties.BOB, true), 50);
        checks.fine(x, "ann by rain", x.change(Counties.ANN, true), -50);
        checks.fine(x, "ann by a dry day", x.change(Counties.ANN, false), 11);
        checks.fine(x, "cal by a dry day", x.change(Counties.CAL, false), -11);
        checks.fine(x, "bob by a dry day", x.change(Counties.BOB, false), 0);
        x.day(false);
        x.day(false);
        checks.fine(x, "bob by the third dry day", x.change(Counties.BOB, false), -30);
        checks.fine(x, "nothing went by", x.size(7), 2);
        checks.refused(x, "change(4, true)", x.change(4, true), -1000, 1);
        checks.refused(x, "change(-1, false)", x.change(-1, false), -1000, 1);
        UmbrellaHeir none = new UmbrellaHeir();
        checks.refused(none, "change of nothing", none.change(0, true), -1000, 1);
    }

    /** Promise 23. */
    private void lapses() {
        UmbrellaHeir x = Checks.told(Counties.BASE);
        int[] due = {-2, 3, 0, 0, 3};
        for (int u = 0; u < 5; u++) {
            checks.fine(x, "lapsesIn " + u, x.lapsesIn(u), due[u]);
        }
        x.day(false);
        checks.fine(x, "behind a dry day", x.lapsesIn(Counties.B), 2);
        x.day(true);
        checks.fine(x, "behind rain", x.lapsesIn(Counties.B), 3);
        UmbrellaHeir late = Checks.told("county lapse 30 gust 0 rains 0;person p plain;umbrella u cotton lands 1 ribs 4 with p"
            + ";umbrella s silk lands 1 ribs 4;umbrella r parasol lands 1 ribs 4;umbrella q parasol lands 1 ribs 4 with p");
        checks.fine(late, "lapse 30", late.lapsesIn(0), 30);
        checks.fine(late, "a silk one that is nobody's", late.lapsesIn(1), 0);
        checks.fine(late, "a parasol that is nobody's", late.lapsesIn(2), 0);
        checks.fine(late, "a parasol that somebody has", late.lapsesIn(3), 30);
        checks.refused(x, "lapsesIn(5)", x.lapsesIn(5), 1);
        checks.refused(x, "lapsesIn(-1)", x.lapsesIn(-1), 1);
    }
}
