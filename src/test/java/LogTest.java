/** Promises 11 to 20: what the log brings, day by day, claims, and the change that nobody saw. */
final class LogTest {
    /**
     * Titles behind the days (lapse 2; rain on 1 and 4 alone):
     * s ann's all along; t ann's behind 1 and 2; u cal's behind 0 to 2, ann's behind 4 and 5;
     * p ann's behind 2 and behind 5; w (a stick) nobody's.
     */
    private static final String LOG = "county lapse 2 gust 0 rains 0;person ann plain;person kid child;person cal careless"
        + ";umbrella s silk lands 40 ribs 8 with ann;umbrella t cotton lands 30 ribs 8 with kid"
        + ";umbrella u cotton lands 20 ribs 8 with cal;umbrella p parasol lands 5 ribs 4;umbrella w stick lands 9 ribs 4 with ann"
        + ";rain day 1;lent t ann day 1;lent p ann day 1;left u day 2;changed t u day 3"
        + ";rain day 4;lent s kid day 4;lent s cal day 5;lent w cal day 5";
    private static final int ANN = 0;
    private static final int KID = 1;
    private static final int CAL = 2;
    private static final int S = 0;

    /** Two alike, x with a, y with b; rain on day 5. */
    private static final String PAIR = "county lapse 30 gust 0 rains 0;person a plain;person b plain"
        + ";umbrella x silk lands 1 ribs 8 with a;umbrella y silk lands 2 ribs 8 with b";

    private final Checks checks = new Checks("LogTest");

    private LogTest() {
    }

    public static void main(String[] args) {
        LogTest test = new LogTest();
        test.holders();
        test.titles();
        test.lands();
        test.nobodys();
        test.rows();
        test.careless();
        test.claims();
        test.unseen();
        test.refusals();
        test.checks.end();
    }

    /** Promise 11. */
    private void holders() {
        UmbrellaHeir x = Checks.told(LOG);
        int[][] due = {
            {ANN, ANN, ANN, ANN, KID, CAL, CAL}, {KID, ANN, ANN, -2, -2, -2, -2}, {CAL, CAL, -2, ANN, ANN, ANN, ANN},
            {-2, ANN, ANN, ANN, ANN, ANN, ANN}, {ANN, ANN, ANN, ANN, ANN, -2, -2},
        };
        for (int u = 0; u < 5; u++) {
            for (int day = 0; day < 7; day++) {
                checks.fine(x, "hasIt " + u + " " + day, x.hasIt(u, day), due[u][day]);
            }
            checks.fine(x, "hasIt " + u + " 40", x.hasIt(u, 40), due[u][6]);
        }
        x.lend(S, ANN);
        checks.fine(x, "acts are not of the log", x.hasIt(S, 40), CAL);
    }

    /** Promise 12. */
    private void titles() {
        UmbrellaHeir x = Checks.told(LOG);
        int[][] due = {
            {ANN, ANN, ANN, ANN, ANN, ANN, ANN}, {-2, ANN, ANN, -2, -2, -2, -2}, {CAL, CAL, CAL, -2, ANN, ANN, -2},
            {-2, -2, ANN, -2, -2, ANN, -2}, {-2, -2, -2, -2, -2, -2, -2},
        };
        for (int u = 0; u < 5; u++) {
            for (int day = 0; day < 7; day++) {
                checks.fine(x, "titleOf " + u + " " + day, x.titleOf(u, day), due[u][day]);
            }
            checks.fine(x, "titleOf " + u + " 40", x.titleOf(u, 40), due[u][6]);
        }
    }

    /** Promise 13. */
    private void lands() {
        UmbrellaHeir x = Checks.told(LOG);
        int[] ann = {40, 70, 75, 40, 60, 65, 40};
        int[] cal = {20, 20, 20, 0, 0, 0, 0};
        for (int day = 0; day < 7; day++) {
            checks.fine(x, "landsOf ann " + day, x.landsOf(ANN, day), ann[day]);
            checks.fine(x, "landsOf kid " + day, x.landsOf(KID, day), 0);
            checks.fine(x, "landsOf cal " + day, x.landsOf(CAL, day), cal[day]);
        }
        checks.fine(x, "landsOf ann 40", x.landsOf(ANN, 40), 40);
    }

    /** Promises 14 and 20. */
    private void nobodys() {
        UmbrellaHeir x = Checks.told(LOG);
        int[] due = {44, 14, 9, 64, 44, 39, 64};
        for (int day = 0; day < 7; day++) {
            checks.fine(x, "lapsed " + day, x.lapsed(day), due[day]);
        }
        checks.fine(x, "lapsed 40", x.lapsed(40), 64);
        checks.fine(x, "worstDay, the first such", x.worstDay(), 3);
        UmbrellaHeir none = Checks.told(Counties.SMALL);
        checks.fine(none, "worstDay of like days", none.worstDay(), 0);
        UmbrellaHeir last = Checks.told("county lapse 20 gust 0 rains 0;person a plain;umbrella x cotton lands 3 ribs 4 with a"
            + ";rain day 0;rain day 20");
        checks.fine(last, "behind day 39 it isn't nobody's yet", last.lapsed(39), 0);
        checks.fine(last, "the twentieth dry day behind the rain", last.worstDay(), 40);
    }

    /** Promises 15 and 19. */
    private void rows() {
        UmbrellaHeir x = Checks.told(LOG);
        int[] passed = {0, 2, 3, 4, 0};
        int[] longest = {41, 2, 3, 1, 0};
        for (int u = 0; u < 5; u++) {
            checks.fine(x, "passed " + u, x.passed(u), passed[u]);
            checks.fine(x, "longest " + u, x.longest(u), longest[u]);
        }
        UmbrellaHeir y = Checks.told(PAIR + ";rain day 0;changed x y day 0;lent x a day 10;rain day 10");
        checks.fine(y, "passed counts day 0", y.passed(0), 2);
        checks.fine(y, "longest is one person's", y.longest(0), 31);
        checks.fine(y, "y is one person's all along", y.longest(1), 41);
        checks.fine(y, "passed of y", y.passed(1), 1);
        UmbrellaHeir there = Checks.told(PAIR + ";rain day 0;changed x y day 0;changed x y day 1;rain day 1");
        checks.fine(there, "there on day 0 and back on day 1", there.passed(0), 2);
    }

    private void careless() {
        UmbrellaHeir x = Checks.told("county lapse 5 gust 0 rains 0;person c careless;person d careless;umbrella u silk lands 4 ribs 4 with c"
            + ";umbrella v silk lands 3 ribs 4 with c;umbrella w silk lands 3 ribs 4 with c;umbrella z silk lands 9 ribs 4 with d;rain day 1");
        checks.due("the first of those with fewest lands", x.hasIt(1, 0), -2);
        checks.due("only one a day", x.hasIt(2, 0), 0);
        checks.due("another one on the next day, with rain too", x.hasIt(2, 1), -2);
        checks.due("the last one stays", x.hasIt(0, 40), 0);
        checks.due("who has one leaves none", x.hasIt(3, 40), 1);
        checks.due("the title is his by rain ahead of that", x.titleOf(2, 1), 0);
        UmbrellaHeir plain = Checks.told("county lapse 5 gust 0 rains 0;person c plain;umbrella u silk lands 4 ribs 4 with c;umbrella v silk lands 3 ribs 4 with c");
        checks.due("others leave none", plain.hasIt(1, 40), 0);
        UmbrellaHeir first = Checks.told("county lapse 5 gust 0 rains 0;person c careless;umbrella u silk lands 3 ribs 4 with c;umbrella v silk lands 3 ribs 4 with c");
        checks.due("the very first one is left", first.hasIt(0, 0), -2);
        checks.due("the other stays", first.hasIt(1, 40), 0);
    }

    /** Promise 16. */
    private void claims() {
        UmbrellaHeir none = Checks.told(LOG);
        checks.fine(none, "judge without claims", none.judge(), -2);
        UmbrellaHeir so = Checks.told(LOG + ";claims ann t day 2;claims cal u day 2;claims ann s day 40");
        checks.fine(so, "all are so", so.judge(), -2);
        UmbrellaHeir wrong = Checks.told(LOG + ";claims ann t day 2;claims cal u day 3;claims kid s day 4");
        checks.fine(wrong, "the first that isn't so, as told", wrong.judge(), 1);
        UmbrellaHeir later = Checks.told(LOG + ";claims kid s day 40;claims cal u day 3");
        checks.fine(later, "by telling, not by days", later.judge(), 0);
        UmbrellaHeir six = Checks.told(PAIR + ";claims a x day 0".repeat(5) + ";claims b y day 40");
        checks.fine(six, "six that are so", six.judge(), -2);
        checks.fine(six, "ways of six that are so: no rain makes another title", six.ways(), 42);
        UmbrellaHeir last = Checks.told(PAIR + ";claims a x day 0".repeat(5) + ";claims a y day 40");
        checks.fine(last, "the sixth isn't so", last.judge(), 5);
        checks.fine(last, "and can't be", last.ways(), 0);
    }

    /** Promises 17 and 18. */
    private void unseen() {
        UmbrellaHeir mended = Checks.told(PAIR + ";rain day 5;claims a y day 5");
        checks.fine(mended, "ways", mended.ways(), 6);
        for (int i = 0; i < 6; i++) {
            checks.fine(mended, "wayAt " + i, mended.wayAt(i), 100 * i + 1);
        }
        checks.refused(mended, "wayAt(6)", mended.wayAt(6), 1);
        checks.refused(mended, "wayAt(-1)", mended.wayAt(-1), 1);
        UmbrellaHeir first = Checks.told(PAIR + ";lent y b day 3;rain day 5;claims a y day 5");
        checks.fine(first, "the first thing of that day", first.ways(), 2);
        checks.fine(first, "behind the lending", first.wayAt(0), 401);
        UmbrellaHeir kept = Checks.told(PAIR + ";rain day 5;claims a x day 5");
        checks.fine(kept, "ways with none", kept.ways(), 36);
        checks.fine(kept, "no change ahead of all", kept.wayAt(0), -2);
        checks.fine(kept, "then by days", kept.wayAt(1), 601);
        checks.fine(kept, "the last", kept.wayAt(35), 4001);
        checks.refused(kept, "wayAt(36)", kept.wayAt(36), 1);
        UmbrellaHeir both = Checks.told(PAIR + ";rain day 2;rain day 5;claims a y day 5;claims b y day 2");
        checks.fine(both, "all claims must be so", both.ways(), 3);
        checks.fine(both, "behind the first claim's day", both.wayAt(0), 301);
        UmbrellaHeir never = Checks.told(PAIR + ";rain day 5;claims a y day 4");
        checks.fine(never, "no way", never.ways(), 0);
        checks.refused(never, "wayAt(0)", never.wayAt(0), 1);
        UmbrellaHeir unlike = Checks.told(PAIR + ";umbrella z silk lands 2 ribs 7 with b;rain day 5;claims a z day 5");
        checks.fine(unlike, "unlike ones are not changed", unlike.ways(), 0);
        UmbrellaHeir three = Checks.told(PAIR + ";umbrella z silk lands 2 ribs 8 with b");
        checks.fine(three, "without claims", three.ways(), 124);
        int[] due = {-2, 1, 2, 12, 101, 102, 112};
        for (int i = 0; i < due.length; i++) {
            checks.fine(three, "wayAt of three, " + i, three.wayAt(i), due[i]);
        }
        checks.fine(three, "the last of three", three.wayAt(123), 4012);
        three.exchange(0, 1);
        three.day(true);
        checks.fine(three, "acts are not of the log", three.ways(), 124);
        Checks.tell(three, PAIR + ";rain day 5;claims a y day 5");
        checks.fine(three, "ways of another county", three.ways(), 6);
        UmbrellaHeir five = Checks.told(Counties.silks(5));
        checks.fine(five, "ways of five alike", five.ways(), 411);
        checks.fine(five, "the first of five", five.wayAt(1), 1);
        checks.fine(five, "the tenth pair", five.wayAt(10), 34);
        checks.fine(five, "the last of five", five.wayAt(410), 4034);
        Checks.tell(five, Counties.silks(5));
        Checks.tell(five, Counties.silks(2));
        checks.fine(five, "nothing of a county told earlier", five.ways(), 42);
    }

    private void refusals() {
        UmbrellaHeir x = Checks.told(LOG);
        for (int day : new int[] {-1, 41, Integer.MIN_VALUE, Integer.MAX_VALUE}) {
            checks.refused(x, "hasIt day " + day, x.hasIt(0, day), 2);
            checks.refused(x, "titleOf day " + day, x.titleOf(0, day), 2);
            checks.refused(x, "landsOf day " + day, x.landsOf(0, day), 2);
            checks.refused(x, "lapsed day " + day, x.lapsed(day), 2);
            checks.refused(x, "hasIt of none, day " + day, x.hasIt(5, day), 1);
            checks.refused(x, "titleOf of none, day " + day, x.titleOf(5, day), 1);
            checks.refused(x, "landsOf of none, day " + day, x.landsOf(3, day), 1);
        }
        for (int one : new int[] {-1, 5}) {
            checks.refused(x, "hasIt", x.hasIt(one, 0), 1);
            checks.refused(x, "titleOf", x.titleOf(one, 0), 1);
            checks.refused(x, "landsOf", x.landsOf(one, 0), 1);
            checks.refused(x, "passed", x.passed(one), 1);
            checks.refused(x, "longest", x.longest(one), 1);
        }
        UmbrellaHeir none = new UmbrellaHeir();
        checks.refused(none, "hasIt of nothing", none.hasIt(0, 0), 1);
        checks.refused(none, "titleOf of nothing", none.titleOf(0, 99), 1);
        checks.refused(none, "landsOf of nothing", none.landsOf(0, 0), 1);
        checks.refused(none, "lapsed of nothing", none.lapsed(41), 1);
        checks.refused(none, "passed of nothing", none.passed(0), 1);
        checks.refused(none, "judge of nothing", none.judge(), 1);
        checks.refused(none, "ways of nothing", none.ways(), 1);
        checks.refused(none, "wayAt of nothing", none.wayAt(0), 1);
        checks.refused(none, "longest of nothing", none.longest(0), 1);
        checks.refused(none, "worstDay of nothing", none.worstDay(), 1);
    }
}
