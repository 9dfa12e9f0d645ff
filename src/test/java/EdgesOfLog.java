/** Boundary cases of promises 11 to 20 and of Terms II and III as far as THE LOG goes. */
final class EdgesOfLog {
    private static final String PEOPLE = "person a plain;person b plain;person k child;person c careless";
    /** Two alike, x with a, y with b. */
    private static final String PAIR = "county lapse 30 gust 0 rains 0;" + PEOPLE
        + ";umbrella x silk lands 1 ribs 8 with a;umbrella y silk lands 2 ribs 8 with b";
    private static final int[] FULL_TITLES = {1, 1, -2, 4, 5};
    private static final int[] FULL_HOLDERS = {1, -2, 4, 2, 5};

    private final Edges edges;

    EdgesOfLog(Edges edges) {
        this.edges = edges;
    }

    void all() {
        hasItRefused();
        hasItDays();
        titleOfRefused();
        titleOfDays();
        titleOfSorts();
        rainBehindAllElse();
        dryDays();
        parasolsLapse();
        carelessOnes();
        landsOfRefused();
        landsOfDays();
        lapsedRefused();
        lapsedLands();
        passedRefused();
        passedDays();
        judgeRefused();
        judgeClaims();
        waysRefused();
        waysNone();
        waysFirstThing();
        wayAtRefused();
        wayAtOrder();
        longestRefused();
        longestDays();
        worstDayRefused();
        worstDays();
    }

    /** A county with so long a lapse and one umbrella of a kind that a has, and these lines behind. */
    private static String one(int lapse, String kind, String lines) {
        return "county lapse " + lapse + " gust 0 rains 0;" + PEOPLE + ";umbrella u " + kind + " lands 5 ribs 4 with a" + lines;
    }

    private void hasItRefused() {
        edges.sentence(11, "NONE: 1; 2.");
        edges.refusesOtherUmbrellas("hasIt % 0");
        edges.refusesOtherUmbrellas("hasIt % 41");
        edges.fromLeast();
        edges.refusesNumbers("hasIt 0 %", 2, 41, 42);
        edges.fromFull();
        edges.refusesNumbers("hasIt 4 %", 2, 41, 42);
    }

    private void hasItDays() {
        edges.sentence(11, "Who HAS an umbrella; -2 nobody; BEHIND a day: it and all days ahead of it, from 0 on.");
        edges.fromLeast();
        edges.answers("hasIt 0 0", -2);
        edges.answers("hasIt 0 40", -2);
        edges.fromFull();
        for (int u = 0; u < 5; u++) {
            edges.answers("hasIt " + u + " 0", FULL_HOLDERS[u]);
            edges.answers("hasIt " + u + " 40", FULL_HOLDERS[u]);
        }
        edges.from(one(30, "silk", ";lent u b day 0;left u day 39;lent u k day 40"));
        edges.answers("hasIt 0 0", 1);
        edges.answers("hasIt 0 38", 1);
        edges.answers("hasIt 0 39", -2);
        edges.answers("hasIt 0 40", 2);
        edges.from(one(30, "silk", ";left u day 1"));
        edges.answers("hasIt 0 0", 0);
        edges.answers("hasIt 0 1", -2);
        // What is told of one day happens in the order in which it is told.
        edges.from(one(30, "silk", ";lent u b day 3;left u day 3"));
        edges.answers("hasIt 0 3", -2);
        edges.from(one(30, "silk", ";left u day 3;lent u b day 3"));
        edges.answers("hasIt 0 3", 1);
        // Changed for one that nobody has, or for another one of his own.
        edges.from(one(30, "silk", ";umbrella v cotton lands 1 ribs 4;changed u v day 0"));
        edges.answers("hasIt 0 0", -2);
        edges.answers("hasIt 1 0", 0);
        edges.from(one(30, "silk", ";umbrella v cotton lands 1 ribs 4 with a;changed v u day 0"));
        edges.answers("hasIt 0 0", 0);
        edges.answers("hasIt 1 0", 0);
        // Lent to him who has it, left where nobody has it: nothing happens.
        edges.from(one(30, "silk", ";lent u a day 0;left u day 1;left u day 2"));
        edges.answers("hasIt 0 0", 0);
        edges.answers("hasIt 0 2", -2);
    }

    private void titleOfRefused() {
        edges.sentence(12, "NONE: 1; 2.");
        edges.refusesOtherUmbrellas("titleOf % 0");
        edges.refusesOtherUmbrellas("titleOf % -1");
        edges.fromLeast();
        edges.refusesNumbers("titleOf 0 %", 2, 41, 42);
        edges.fromFull();
        edges.refusesNumbers("titleOf 4 %", 2, 41, 42);
    }

    private void titleOfDays() {
        edges.sentence(12, "Whose TITLE it is; -2.");
        edges.fromLeast();
        edges.answers("titleOf 0 0", -2);
        edges.answers("titleOf 0 40", -2);
        edges.fromFull();
        for (int u = 0; u < 5; u++) {
            edges.answers("titleOf " + u + " 0", FULL_TITLES[u]);
            edges.answers("titleOf " + u + " 40", FULL_TITLES[u]);
        }
        edges.from(one(30, "silk", ";lent u b day 0;rain day 0"));
        edges.answers("titleOf 0 0", 1);
        edges.from(one(30, "silk", ";lent u b day 0;rain day 1"));
        edges.answers("titleOf 0 0", 0);
        edges.answers("titleOf 0 1", 1);
        edges.from(one(30, "silk", ";lent u b day 40;rain day 40"));
        edges.answers("titleOf 0 39", 0);
        edges.answers("titleOf 0 40", 1);
        edges.from(one(30, "silk", ";rain day 39;lent u b day 40"));
        edges.answers("titleOf 0 40", 0);
    }

    private void titleOfSorts() {
        edges.sentence(12, "Rain: his then (but parasols), but stays if he is a child; of sticks it is nobody's at all times; stays if nobody HAS it.");
        String[] kinds = {"silk", "cotton", "stick", "parasol"};
        for (int kind = 0; kind < 4; kind++) {
            int first = kind == 2 ? -2 : 0;
            int byRain = kind == 2 ? -2 : kind == 3 ? 0 : 1;
            int byDry = kind == 2 ? -2 : kind == 3 ? 1 : 0;
            edges.from(one(30, kinds[kind], ";lent u b day 5;rain day 5"));
            edges.answers("titleOf 0 5", byRain);
            edges.from(one(30, kinds[kind], ";lent u b day 5"));
            edges.answers("titleOf 0 4", first);
            edges.answers("titleOf 0 5", byDry);
            edges.from(one(30, kinds[kind], ";lent u k day 5;rain day 5"));
            edges.answers("titleOf 0 5", first);
            edges.answers("titleOf 0 6", first);
            edges.from(one(30, kinds[kind], ";left u day 5;rain day 5"));
            edges.answers("titleOf 0 5", first);
            edges.answers("titleOf 0 6", first);
        }
    }

    private void rainBehindAllElse() {
        edges.sentence(12, "Rain on a day comes behind all else of that day, wherever it is told.");
        edges.from(one(30, "silk", ";rain day 7;lent u b day 7"));
        edges.answers("titleOf 0 6", 0);
        edges.answers("titleOf 0 7", 1);
        edges.from(one(30, "silk", ";rain day 7;lent u b day 7;rain day 7;left u day 7"));
        edges.answers("titleOf 0 7", 0);
        edges.from(one(2, "cotton", ";rain day 1;rain day 1;rain day 1"));
        edges.answers("titleOf 0 1", 0);
        edges.answers("titleOf 0 2", 0);
        edges.answers("titleOf 0 3", -2);
    }

    private void dryDays() {
        edges.sentence(12, "behind so many DRY days one behind the other as lapse tells (and behind each one more of them) nobody's, but silk ones.");
        for (int lapse : new int[] {1, 2, 3, 29, 30}) {
            edges.from(one(lapse, "cotton", ""));
            if (lapse > 1) {
                edges.answers("titleOf 0 " + (lapse - 2), 0);
            }
            edges.answers("titleOf 0 " + (lapse - 1), -2);
            edges.answers("titleOf 0 " + lapse, -2);
            edges.answers("titleOf 0 40", -2);
            edges.from(one(lapse, "silk", ""));
            edges.answers("titleOf 0 " + (lapse - 1), 0);
            edges.answers("titleOf 0 40", 0);
            edges.from(one(lapse, "stick", ""));
            edges.answers("titleOf 0 " + lapse, -2);
            // Rain on the last day ahead of it: the row begins anew.
            edges.from(one(lapse, "cotton", ";rain day " + (lapse - 1)));
            edges.answers("titleOf 0 " + (lapse - 1), 0);
            if (2 * lapse - 1 <= 40) {
                edges.answers("titleOf 0 " + (2 * lapse - 2), 0);
                edges.answers("titleOf 0 " + (2 * lapse - 1), -2);
            } else {
                edges.answers("titleOf 0 40", 0);
            }
            edges.from(one(lapse, "cotton", ";rain day " + lapse));
            edges.answers("titleOf 0 " + (lapse - 1), -2);
            edges.answers("titleOf 0 " + lapse, 0);
        }
        edges.from(one(30, "cotton", ";rain day 10"));
        edges.answers("titleOf 0 39", 0);
        edges.answers("titleOf 0 40", -2);
        edges.from(one(30, "cotton", ";rain day 11"));
        edges.answers("titleOf 0 40", 0);
    }

    private void parasolsLapse() {
        edges.sentence(12, "On each DRY day the TITLE of a parasol that somebody HAS is his then; then the TITLES of all but silk ones are nobody's.");
        edges.from(one(3, "parasol", ";lent u b day 2"));
        edges.answers("titleOf 0 1", 0);
        edges.answers("titleOf 0 2", -2);
        edges.answers("titleOf 0 3", -2);
        edges.from(one(3, "parasol", ";rain day 2;lent u b day 2"));
        edges.answers("titleOf 0 2", 0);
        edges.answers("titleOf 0 3", 1);
        edges.answers("titleOf 0 4", 1);
        edges.answers("titleOf 0 5", -2);
        edges.from(one(1, "parasol", ""));
        edges.answers("titleOf 0 0", -2);
        edges.from(one(1, "parasol", ";rain day 0"));
        edges.answers("titleOf 0 0", 0);
        edges.answers("titleOf 0 1", -2);
        edges.from(one(3, "parasol", ";rain day 3"));
        edges.answers("titleOf 0 3", -2);
        edges.answers("titleOf 0 4", 0);
    }

    private void carelessOnes() {
        edges.sentence(11, "each careless one who HAS more than one leaves that with fewest lands, the first such, on each day, with rain too.");
        String head = "county lapse 30 gust 0 rains 0;person c careless;person d careless;person p plain;person k child";
        edges.from(head + ";umbrella u silk lands 0 ribs 4 with c");
        edges.answers("hasIt 0 0", 0);
        edges.answers("hasIt 0 40", 0);
        for (String rain : new String[] {"", ";rain day 0"}) {
            edges.from(head + ";umbrella u silk lands 5 ribs 4 with c;umbrella v silk lands 5 ribs 4 with c" + rain);
            edges.answers("hasIt 0 0", -2);
            edges.answers("hasIt 1 0", 0);
            edges.answers("hasIt 1 40", 0);
            edges.from(head + ";umbrella u silk lands 5 ribs 4 with c;umbrella v silk lands 4 ribs 4 with c" + rain);
            edges.answers("hasIt 0 0", 0);
            edges.answers("hasIt 1 0", -2);
            edges.from(head + ";umbrella u silk lands 4 ribs 4 with c;umbrella v silk lands 5 ribs 4 with c" + rain);
            edges.answers("hasIt 0 0", -2);
            edges.answers("hasIt 1 0", 0);
        }
        edges.from(head + ";umbrella e silk lands 2 ribs 4 with c;umbrella f silk lands 1 ribs 4 with c;umbrella g silk lands 1 ribs 4 with c"
            + ";umbrella h silk lands 0 ribs 4 with c;umbrella i silk lands 99 ribs 4 with c");
        int[] left = {3, 1, 2, 0, 40};
        for (int u = 0; u < 5; u++) {
            edges.answers("hasIt " + u + " " + left[u], u == 4 ? 0 : -2);
            if (left[u] > 0 && u < 4) {
                edges.answers("hasIt " + u + " " + (left[u] - 1), 0);
            }
        }
        // Each of two careless ones; nobody else.
        edges.from(head + ";umbrella e silk lands 2 ribs 4 with c;umbrella f silk lands 1 ribs 4 with d;umbrella g silk lands 1 ribs 4 with c"
            + ";umbrella h silk lands 3 ribs 4 with d");
        edges.answers("hasIt 0 0", 0);
        edges.answers("hasIt 1 0", -2);
        edges.answers("hasIt 2 0", -2);
        edges.answers("hasIt 3 0", 1);
        edges.from(head + ";umbrella e silk lands 2 ribs 4 with p;umbrella f silk lands 1 ribs 4 with p;umbrella g silk lands 1 ribs 4 with k"
            + ";umbrella h silk lands 3 ribs 4 with k;umbrella i silk lands 0 ribs 4");
        int[] stay = {2, 2, 3, 3, -2};
        for (int u = 0; u < 5; u++) {
            edges.answers("hasIt " + u + " 40", stay[u]);
        }
        edges.sentence(12, "Behind all that he leaves: what he leaves is his by that day's rain.");
        edges.from(head + ";umbrella u silk lands 5 ribs 4 with p;umbrella v silk lands 6 ribs 4 with c;lent u c day 3;rain day 3");
        edges.answers("hasIt 0 3", -2);
        edges.answers("titleOf 0 2", 2);
        edges.answers("titleOf 0 3", 0);
        edges.from(head + ";umbrella u silk lands 5 ribs 4 with p;umbrella v silk lands 6 ribs 4 with c;lent u c day 3;rain day 4");
        edges.answers("titleOf 0 4", 2);
    }

    private void landsOfRefused() {
        edges.sentence(13, "NONE: 1; 2.");
        edges.refusesOtherPersons("landsOf % 0");
        edges.refusesOtherPersons("landsOf % 41");
        edges.fromLeast();
        edges.refusesNumbers("landsOf 0 %", 2, 41, 42);
        edges.fromFull();
        edges.refusesNumbers("landsOf 5 %", 2, 41, 42);
    }

    private void landsOfDays() {
        edges.sentence(13, "LANDS of all umbrellas whose TITLE he has, BEHIND a day.");
        edges.fromLeast();
        edges.answers("landsOf 0 0", 0);
        edges.answers("landsOf 0 40", 0);
        edges.fromFull();
        int[] due = {0, 198, 0, 0, 99, 99};
        for (int p = 0; p < 6; p++) {
            edges.answers("landsOf " + p + " 0", due[p]);
            edges.answers("landsOf " + p + " 40", due[p]);
        }
        edges.from(allOfA("cotton", 30, ""));
        edges.answers("landsOf 0 0", 495);
        edges.answers("landsOf 0 28", 495);
        edges.answers("landsOf 0 29", 0);
    }

    /** Five of one kind with 99 lands each that a has. */
    private static String allOfA(String kind, int lapse, String lines) {
        StringBuilder text = new StringBuilder("county lapse " + lapse + " gust 0 rains 0;" + PEOPLE);
        for (char name = 'p'; name <= 't'; name++) {
            text.append(";umbrella ").append(name).append(' ').append(kind).append(" lands 99 ribs 4 with a");
        }
        return text.append(lines).toString();
    }

    private void lapsedRefused() {
        edges.sentence(14, "NONE: 1 (no COUNTY); 2.");
        edges.refusesWithoutCounty("lapsed 0", "lapsed 40", "lapsed 41", "lapsed -1");
        edges.fromLeast();
        edges.refusesNumbers("lapsed %", 2, 41, 42);
        edges.fromFull();
        edges.refusesNumbers("lapsed %", 2, 41, 42);
    }

    private void lapsedLands() {
        edges.sentence(14, "Lands that are nobody's, of all umbrellas together.");
        edges.fromLeast();
        edges.answers("lapsed 0", 0);
        edges.answers("lapsed 40", 0);
        edges.fromFull();
        edges.answers("lapsed 0", 99);
        edges.answers("lapsed 40", 99);
        edges.from(allOfA("cotton", 30, ""));
        edges.answers("lapsed 28", 0);
        edges.answers("lapsed 29", 495);
        edges.answers("lapsed 40", 495);
        edges.from(allOfA("stick", 30, ";rain day 0"));
        edges.answers("lapsed 0", 495);
        edges.from(allOfA("silk", 1, ""));
        edges.answers("lapsed 40", 0);
    }

    private void passedRefused() {
        edges.sentence(15, "NONE: 1.");
        edges.refusesOtherUmbrellas("passed %");
    }

    private void passedDays() {
        edges.sentence(15, "On how many of the days 0 .. 40 the TITLE was another one's (nobody's, too) BEHIND it than BEHIND the day ahead of it.");
        edges.fromLeast();
        edges.answers("passed 0", 0);
        edges.fromFull();
        int[] due = {1, 0, 0, 0, 0};
        for (int u = 0; u < 5; u++) {
            edges.answers("passed " + u, due[u]);
        }
        // Day 0 against what is at first, and day 40 against day 39.
        edges.from(one(30, "silk", ";lent u b day 0;rain day 0"));
        edges.answers("passed 0", 1);
        edges.from(one(30, "silk", ";lent u b day 40;rain day 40"));
        edges.answers("passed 0", 1);
        edges.from(one(30, "silk", ";lent u b day 0;rain day 0;lent u a day 40;rain day 40"));
        edges.answers("passed 0", 2);
        edges.from(one(1, "cotton", ""));
        edges.answers("passed 0", 1);
        edges.from(one(30, "cotton", ""));
        edges.answers("passed 0", 1);
        edges.from(one(30, "cotton", ";rain day 20"));
        edges.answers("passed 0", 0);
        StringBuilder rains = new StringBuilder();
        for (int i = 0; i < 16; i++) {
            rains.append(";rain day ").append(2 * i + 1);
        }
        // Nobody's behind each dry day, a's behind each rain: on days 0 to 32.
        edges.from(one(1, "cotton", rains.toString()));
        edges.answers("passed 0", 33);
        edges.from(one(30, "silk", ";lent u b day 9;rain day 9;lent u a day 10;rain day 10;lent u b day 11"));
        edges.answers("passed 0", 2);
    }

    private void judgeRefused() {
        edges.sentence(16, "NONE: 1 (no COUNTY).");
        edges.refusesWithoutCounty("judge");
    }

    private void judgeClaims() {
        edges.sentence(16, "The first claim that isn't so; -2.");
        edges.fromLeast();
        edges.answers("judge", -2);
        edges.fromFull();
        edges.answers("judge", 0);
        String rained = PAIR + ";lent x b day 20;rain day 20";
        edges.from(rained + ";claims a x day 19;claims b x day 20;claims b x day 40;claims a x day 0;claims b y day 0;claims b y day 40");
        edges.answers("judge", -2);
        edges.from(rained + ";claims a x day 20");
        edges.answers("judge", 0);
        edges.from(rained + ";claims b x day 19");
        edges.answers("judge", 0);
        edges.from(rained + ";claims b x day 20".repeat(5) + ";claims b x day 0");
        edges.answers("judge", 5);
        edges.from(rained + ";claims b x day 40".repeat(4) + ";claims a x day 40;claims b x day 0");
        edges.answers("judge", 4);
        // Nobody's title is no claimant's.
        edges.from(one(1, "cotton", ";claims a u day 0"));
        edges.answers("judge", 0);
        edges.from(one(1, "cotton", ";rain day 0;claims a u day 0"));
        edges.answers("judge", -2);
    }

    private void waysRefused() {
        edges.sentence(17, "NONE: 1 (no COUNTY).");
        edges.refusesWithoutCounty("ways");
    }

    private void waysNone() {
        edges.sentence(17, "UNSEEN: how many ways: no change, or one change of two ALIKE on one day (0 .. 40).");
        edges.fromLeast();
        edges.answers("ways", 1);
        edges.fromFull();
        edges.answers("ways", 0);
        edges.from(PAIR);
        edges.answers("ways", 42);
        edges.from(PAIR.replace("y silk lands 2 ribs 8", "y silk lands 2 ribs 7"));
        edges.answers("ways", 1);
        edges.from(PAIR.replace("y silk", "y cotton"));
        edges.answers("ways", 1);
        // Alike ones that one and the same has, or nobody: a change all the same.
        edges.from(PAIR.replace("with b", "with a") + ";claims a x day 0");
        edges.answers("ways", 42);
        edges.from(PAIR.replace(" with a", "").replace(" with b", ""));
        edges.answers("ways", 42);
        edges.from(PAIR.replace("with b", "with a") + ";claims b x day 40");
        edges.answers("ways", 0);
        // The last day's rain can be changed on each day, the first day's on day 0 alone.
        edges.from(PAIR + ";rain day 40;claims a y day 40");
        edges.answers("ways", 41);
        edges.from(PAIR + ";rain day 0;claims a y day 0");
        edges.answers("ways", 1);
        edges.from(PAIR + ";rain day 40;claims a x day 40");
        edges.answers("ways", 1);
        edges.from(PAIR + ";rain day 40;claims a x day 39");
        edges.answers("ways", 42);
        edges.from(PAIR + ";rain day 0;claims a x day 0");
        edges.answers("ways", 41);
        edges.from(allOfA("parasol", 2, ""));
        edges.answers("ways", 411);
        // Two claims of which one is so by the log, the other by a change: there is no one way for both.
        edges.from(PAIR + ";rain day 5;claims a x day 5;claims a y day 5");
        edges.answers("ways", 0);
        edges.from(PAIR + ";rain day 5;claims b x day 5;claims a y day 5");
        edges.answers("ways", 6);
    }

    private void waysFirstThing() {
        edges.sentence(17, "as the first thing of that day.");
        // Changed ahead of the lending of that day, which gives y to b again: only behind day 7 it helps.
        edges.from(PAIR + ";lent y b day 7;rain day 8;claims a y day 8");
        edges.answers("ways", 1);
        edges.answers("wayAt 0", 801);
        edges.from(PAIR + ";rain day 8;lent y b day 8;claims a y day 8");
        edges.answers("ways", 0);
        edges.from(PAIR + ";left y day 8;rain day 8;lent y a day 8;claims a y day 8");
        edges.answers("wayAt 0", -2);
        // The day's own rain comes behind the change.
        edges.from(PAIR + ";rain day 8;claims a y day 8;claims b y day 7");
        edges.answers("ways", 9);
        edges.answers("wayAt 8", 801);
    }

    private void wayAtRefused() {
        edges.sentence(18, "NONE: 1.");
        edges.refusesWithoutCounty("wayAt 0", "wayAt 1", "wayAt -1");
        edges.fromLeast();
        edges.refusesNumbers("wayAt %", 1, 1, 2);
        edges.fromFull();
        edges.refusesNumbers("wayAt %", 1, 0, 1);
        edges.from(PAIR);
        edges.refusesNumbers("wayAt %", 1, 42, 43);
        edges.from(allOfA("parasol", 2, ""));
        edges.refusesNumbers("wayAt %", 1, 411, 412);
        edges.from(PAIR + ";rain day 0;claims a y day 0");
        edges.refusesNumbers("wayAt %", 1, 1, 2);
    }

    private void wayAtOrder() {
        edges.sentence(18, "no change ahead of all (-2), then by days, umbrellas: 100 times the day, 10 times the lesser umbrella and the other.");
        edges.fromLeast();
        edges.answers("wayAt 0", -2);
        edges.from(PAIR);
        edges.answers("wayAt 0", -2);
        edges.answers("wayAt 1", 1);
        edges.answers("wayAt 2", 101);
        edges.answers("wayAt 41", 4001);
        edges.from(PAIR + ";rain day 40;claims a y day 40");
        edges.answers("wayAt 0", 1);
        edges.answers("wayAt 40", 4001);
        edges.from(PAIR + ";rain day 0;claims a x day 0");
        edges.answers("wayAt 0", -2);
        edges.answers("wayAt 1", 101);
        edges.answers("wayAt 40", 4001);
        edges.from(allOfA("parasol", 2, ""));
        int[] pairs = {1, 2, 3, 4, 12, 13, 14, 23, 24, 34};
        for (int i = 0; i < 10; i++) {
            edges.answers("wayAt " + (1 + i), pairs[i]);
            edges.answers("wayAt " + (401 + i), 4000 + pairs[i]);
        }
        edges.from(PAIR + ";umbrella z cotton lands 1 ribs 8;umbrella w cotton lands 1 ribs 8");
        edges.answers("ways", 83);
        edges.answers("wayAt 2", 23);
        edges.answers("wayAt 82", 4023);
    }

    private void longestRefused() {
        edges.sentence(19, "NONE: 1.");
        edges.refusesOtherUmbrellas("longest %");
    }

    private void longestDays() {
        edges.sentence(19, "The most days (of 0 .. 40) one behind the other BEHIND which the TITLE is one person's; 0 if it never is anybody's.");
        edges.fromLeast();
        edges.answers("longest 0", 0);
        edges.fromFull();
        int[] due = {41, 41, 0, 41, 41};
        for (int u = 0; u < 5; u++) {
            edges.answers("longest " + u, due[u]);
        }
        // At first is ahead of day 0 and doesn't count.
        edges.from(one(1, "cotton", ""));
        edges.answers("longest 0", 0);
        edges.from(one(2, "cotton", ""));
        edges.answers("longest 0", 1);
        edges.from(one(30, "cotton", ""));
        edges.answers("longest 0", 29);
        edges.from(one(1, "cotton", ";rain day 0"));
        edges.answers("longest 0", 1);
        edges.from(one(1, "cotton", ";rain day 40"));
        edges.answers("longest 0", 1);
        edges.from(one(1, "cotton", ";rain day 39;rain day 40"));
        edges.answers("longest 0", 2);
        // One person's and then another's: the rows don't join.
        edges.from(one(30, "silk", ";lent u b day 20;rain day 20"));
        edges.answers("longest 0", 21);
        edges.from(one(30, "silk", ";lent u b day 21;rain day 21"));
        edges.answers("longest 0", 21);
        edges.from(one(30, "silk", ";lent u b day 20;rain day 20;lent u a day 21;rain day 21"));
        edges.answers("longest 0", 20);
        // Nobody's on one day parts the rows of one and the same person: days 0 and 1, then 3 to 5, then none.
        edges.from(one(1, "cotton", ";rain day 0;rain day 1;rain day 3;rain day 4;rain day 5"));
        edges.answers("longest 0", 3);
    }

    private void worstDayRefused() {
        edges.sentence(20, "NONE: 1 (no COUNTY).");
        edges.refusesWithoutCounty("worstDay");
    }

    private void worstDays() {
        edges.sentence(20, "The day BEHIND which most lands are nobody's, the first such.");
        edges.fromLeast();
        edges.answers("worstDay", 0);
        edges.fromFull();
        edges.answers("worstDay", 0);
        edges.from(one(1, "cotton", ";rain day 0"));
        edges.answers("worstDay", 1);
        edges.from(one(30, "cotton", ";rain day 10"));
        edges.answers("worstDay", 40);
        edges.from(one(30, "cotton", ";rain day 11"));
        edges.answers("worstDay", 0);
        edges.from(one(2, "cotton", ";rain day 2"));
        edges.answers("worstDay", 1);
        // 4 lands from the first on, 9 behind day 30 alone.
        edges.from(one(30, "cotton", ";umbrella w stick lands 4 ribs 4;rain day 0;rain day 31"));
        edges.answers("worstDay", 30);
    }
}
