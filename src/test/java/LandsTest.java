/** Promises 31 to 40: gusts, lands divided, heirs, what to lend, centuries. */
final class LandsTest {
    private final Checks checks = new Checks("LandsTest");

    private LandsTest() {
    }

    public static void main(String[] args) {
        LandsTest test = new LandsTest();
        test.wholeOnes();
        test.allWholeOnes();
        test.dividedLands();
        test.heirsWhoStandClose();
        test.restsOfHeirs();
        test.mostByLending();
        test.centuries();
        test.checks.end();
    }

    /** Promise 31. */
    private void wholeOnes() {
        UmbrellaHeir x = Checks.told(Counties.BASE);
        checks.fine(x, "cotton, 6 hours", x.whole(Counties.B, 6, false), 729);
        checks.fine(x, "cotton, 6 hours", x.whole(Counties.B, 6, true), 4096);
        checks.fine(x, "silk by half of 25, downwards", x.whole(Counties.A, 1, false), 22);
        checks.fine(x, "silk", x.whole(Counties.A, 1, true), 25);
        checks.fine(x, "silk, 2 hours", x.whole(Counties.A, 2, false), 484);
        checks.fine(x, "stick", x.whole(Counties.D, 1, true), 4);
        checks.fine(x, "parasol", x.whole(Counties.E, 1, false), 3);
        checks.fine(x, "no hours", x.whole(Counties.B, 0, false), 1);
        checks.fine(x, "no hours", x.whole(Counties.B, 0, true), 1);
        checks.refused(x, "7 hours", x.whole(0, 7, true), 2);
        checks.refused(x, "-1 hours", x.whole(0, -1, false), 2);
        checks.refused(x, "none such", x.whole(5, 7, false), 1);
        checks.refused(x, "none such", x.whole(-1, 0, false), 1);
        UmbrellaHeir calm = Checks.told(Counties.SMALL);
        checks.fine(calm, "no gusts", calm.whole(0, 6, false), 1);
        checks.fine(calm, "no gusts", calm.whole(0, 6, true), 1);
        UmbrellaHeir wild = Checks.told("county lapse 1 gust 99 rains 0;person p plain;umbrella u stick lands 1 ribs 4;umbrella s silk lands 1 ribs 4");
        checks.fine(wild, "99 in a hundred", wild.whole(0, 6, false), 1);
        checks.fine(wild, "99 in a hundred", wild.whole(0, 6, true), 1_000_000_000_000L);
        checks.fine(wild, "silk, 49 in a hundred", wild.whole(1, 6, false), 17_596_287_801L);
        UmbrellaHeir none = new UmbrellaHeir();
        checks.refused(none, "whole of nothing", none.whole(0, 0, false), 1);
    }

    /** Promise 32. */
    private void allWholeOnes() {
        UmbrellaHeir x = Checks.told(Counties.BASE);
        checks.fine(x, "cal's two", x.allWhole(Counties.CAL, 1, false), 9);
        checks.fine(x, "cal's two", x.allWhole(Counties.CAL, 1, true), 16);
        checks.fine(x, "ann's silk one", x.allWhole(Counties.ANN, 1, false), 22);
        checks.fine(x, "no hours", x.allWhole(Counties.CAL, 0, true), 1);
        x.lend(Counties.A, Counties.BOB);
        checks.fine(x, "bob has two", x.allWhole(Counties.BOB, 1, false), 33);
        checks.fine(x, "bob has two", x.allWhole(Counties.BOB, 1, true), 50);
        checks.fine(x, "ann has none", x.allWhole(Counties.ANN, 1, false), 1);
        checks.fine(x, "ann has none", x.allWhole(Counties.ANN, 1, true), 1);
        checks.refused(x, "2 hours", x.allWhole(0, 2, true), 2);
        checks.refused(x, "-1 hours", x.allWhole(0, -1, true), 2);
        checks.refused(x, "none such", x.allWhole(4, 2, true), 1);
        checks.refused(x, "none such", x.allWhole(-2, 0, true), 1);
        UmbrellaHeir none = new UmbrellaHeir();
        checks.refused(none, "allWhole of nothing", none.allWhole(0, 0, false), 1);
    }

    /** Promise 33. */
    private void dividedLands() {
        UmbrellaHeir x = Checks.told(Counties.BASE);
        int[] due = {7, 7, 6, 6, 6, 6, 6, 6};
        for (int i = 0; i < 8; i++) {
            checks.fine(x, "divided among 8, " + i, x.divided(Counties.A, 8, i), due[i]);
        }
        checks.fine(x, "divided among 9", x.divided(Counties.D, 9, 6), 1);
        checks.fine(x, "divided among 9", x.divided(Counties.D, 9, 7), 0);
        checks.fine(x, "all his", x.divided(Counties.B, 1, 0), 30);
        checks.refused(x, "among none", x.divided(0, 0, 0), 2);
        checks.refused(x, "among 10", x.divided(0, 10, 0), 2);
        checks.refused(x, "among 10, the 11th", x.divided(0, 10, 11), 2);
        checks.refused(x, "the 9th of 8", x.divided(0, 8, 8), 1);
        checks.refused(x, "the one ahead of the first", x.divided(0, 8, -1), 1);
        checks.refused(x, "none such", x.divided(5, 10, 0), 1);
        checks.refused(x, "none such", x.divided(-1, 1, 0), 1);
        UmbrellaHeir none = new UmbrellaHeir();
        checks.refused(none, "divided of nothing", none.divided(0, 1, 0), 1);
    }

    /** Promise 34. */
    private void heirsWhoStandClose() {
        UmbrellaHeir x = Checks.told(Counties.BASE);
        checks.fine(x, "who stands closer", x.heirs(99, 6, 0, false), 87);
        checks.fine(x, "the other", x.heirs(99, 6, 0, true), 0);
        checks.fine(x, "the other stands closer", x.heirs(10, 2, 3, true), 4);
        checks.fine(x, "the one loses", x.heirs(10, 2, 3, false), -4);
        checks.fine(x, "alike close, downwards", x.heirs(9, 3, 3, false), -2);
        checks.fine(x, "alike close, downwards", x.heirs(9, 3, 3, true), -2);
        checks.fine(x, "no land", x.heirs(0, 6, 5, false), -12);
        checks.refused(x, "lands -1", x.heirs(-1, 0, 0, false), -100, 2);
        checks.refused(x, "lands 100", x.heirs(100, 0, 0, false), -100, 2);
        checks.refused(x, "one 7", x.heirs(1, 7, 0, false), -100, 2);
        checks.refused(x, "one -1", x.heirs(1, -1, 0, true), -100, 2);
        checks.refused(x, "other 7", x.heirs(1, 0, 7, false), -100, 2);
        checks.refused(x, "other -1", x.heirs(1, 0, -1, true), -100, 2);
        UmbrellaHeir none = new UmbrellaHeir();
        checks.refused(none, "heirs of nothing", none.heirs(100, 0, 0, false), -100, 1);
    }

    /** Promises 35 and 36. */
    private void restsOfHeirs() {
        UmbrellaHeir x = Checks.told(Counties.BASE);
        int[][] due = {{0, 1, 0}, {1, 1, 0}, {2, 1, 0}, {3, 3, 0}, {4, 4, 0}, {5, 0, -2}, {10, 0, -2}, {23, 0, -2}, {24, 1, 66}, {99, 1, 66}};
        for (int[] row : due) {
            checks.fine(x, "rests " + row[0], x.rests(row[0]), row[1]);
            checks.fine(x, "rest " + row[0], x.rest(row[0]), row[2]);
        }
        for (int lands : new int[] {-1, 100}) {
            checks.refused(x, "rests " + lands, x.rests(lands), 2);
            checks.refused(x, "rest " + lands, x.rest(lands), 2);
        }
        UmbrellaHeir none = new UmbrellaHeir();
        checks.refused(none, "rests of nothing", none.rests(100), 1);
        checks.refused(none, "rest of nothing", none.rest(-1), 1);
    }

    /** Promises 37 and 38. */
    private void mostByLending() {
        UmbrellaHeir x = Checks.told(Counties.BASE);
        int[][] due = {{Counties.B, 80}, {Counties.A, 80}, {Counties.A, 0}, {Counties.A, 61}};
        for (int p = 0; p < 4; p++) {
            checks.fine(x, "most " + p, x.most(p), due[p][0]);
            checks.fine(x, "mostLands " + p, x.mostLands(p), due[p][1]);
        }
        checks.due("nothing is lent", x.umbrella(Counties.B, 3), Counties.BOB);
        // Bob has a and b: c is what he lacks; ann must be lent a itself to keep its title.
        x.lend(Counties.A, Counties.BOB);
        checks.fine(x, "bob lacks c", x.most(Counties.BOB), Counties.C);
        checks.fine(x, "bob's lands", x.mostLands(Counties.BOB), 100);
        checks.fine(x, "ann's own", x.most(Counties.ANN), Counties.A);
        checks.fine(x, "ann's lands", x.mostLands(Counties.ANN), 50);
        UmbrellaHeir own = Checks.told("county lapse 1 gust 0 rains 0;person p plain;umbrella w stick lands 99 ribs 4;umbrella u silk lands 5 ribs 4 with p"
            + ";umbrella r parasol lands 99 ribs 4");
        checks.fine(own, "sticks and parasols bring nothing by rain", own.most(0), 0);
        checks.fine(own, "what he has counts", own.mostLands(0), 5);
        own.lend(2, 0);
        own.day(false);
        checks.fine(own, "a parasol's title lapsed", own.mostLands(0), 5);
        checks.refused(x, "most(4)", x.most(4), 1);
        checks.refused(x, "most(-1)", x.most(-1), 1);
        checks.refused(x, "mostLands(4)", x.mostLands(4), 1);
        checks.refused(x, "mostLands(-1)", x.mostLands(-1), 1);
        UmbrellaHeir none = new UmbrellaHeir();
        checks.refused(none, "most of nothing", none.most(0), 1);
        checks.refused(none, "mostLands of nothing", none.mostLands(0), 1);
    }

    /** Promises 39 and 40: seed 0 lends e to ann on a dry day, then a to bob on a day with rain. */
    private void centuries() {
        UmbrellaHeir x = Checks.told(Counties.BASE);
        int[][] due = {{50, 30, 0, 11}, {61, 30, 0, 0}, {11, 80, 0, 0}};
        for (int n = 0; n < 3; n++) {
            for (int p = 0; p < 4; p++) {
                checks.fine(x, "century " + p + " 0 " + n, x.century(p, 0, n), due[n][p]);
            }
            checks.fine(x, "untitled 0 " + n, x.untitled(0, n), 2);
        }
        checks.due("nothing went by", x.umbrella(Counties.E, 3), Counties.CAL);
        x.day(false);
        x.day(false);
        checks.fine(x, "from now: the third dry day", x.century(Counties.BOB, 0, 1), 0);
        checks.fine(x, "from now: all but the silk one", x.untitled(0, 1), 4);
        checks.fine(x, "the last seed", x.century(Counties.ANN, 65536, 0), 50);
        checks.refused(x, "seed 65,537", x.century(0, 65537, 1), 2);
        checks.refused(x, "seed -1", x.century(0, -1, 1), 2);
        checks.refused(x, "61 years", x.century(0, 0, 61), 2);
        checks.refused(x, "-1 years", x.century(0, 0, -1), 2);
        checks.refused(x, "none such", x.century(4, -1, 61), 1);
        checks.refused(x, "none such", x.century(-1, 0, 0), 1);
        checks.refused(x, "untitled, seed 65,537", x.untitled(65537, 1), 2);
        checks.refused(x, "untitled, seed -1", x.untitled(-1, 1), 2);
        checks.refused(x, "untitled, 61 years", x.untitled(0, 61), 2);
        checks.refused(x, "untitled, -1 years", x.untitled(0, -1), 2);
        x.untitled(65536, 60);
        checks.due("60 years are fine", x.trouble(), 0);
        // The first year's third draw from seed 0 is 52 of a hundred, and it lends the only one to the only one.
        UmbrellaHeir dry = Checks.told("county lapse 9 gust 0 rains 52;person p plain;umbrella u cotton lands 8 ribs 4");
        checks.fine(dry, "52 isn't below 52", dry.century(0, 0, 1), 0);
        checks.fine(dry, "it stays nobody's", dry.untitled(0, 1), 1);
        UmbrellaHeir wet = Checks.told("county lapse 9 gust 0 rains 53;person p plain;umbrella u cotton lands 8 ribs 4");
        checks.fine(wet, "52 is below 53", wet.century(0, 0, 1), 8);
        checks.fine(wet, "it is somebody's", wet.untitled(0, 1), 0);
        UmbrellaHeir none = new UmbrellaHeir();
        checks.refused(none, "century of nothing", none.century(0, 0, 61), 1);
        checks.refused(none, "untitled of nothing", none.untitled(-1, 0), 1);
    }
}
