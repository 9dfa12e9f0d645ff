/** Boundary cases of promises 24 to 30: put right, a party in the rain. */
final class EdgesOfParty {
    private final Edges edges;

    EdgesOfParty(Edges edges) {
        this.edges = edges;
    }

    void all() {
        putRightRefused();
        putRightMost();
        exchangesRefused();
        exchangesUpToThree();
        exchangeAtRefused();
        exchangeAtFirst();
        partyRefused();
        partyRoom();
        partyDanger();
        partyOnlyJustBetter();
        partyOfRefused();
        partyOfNoRoom();
        partyOfNotThere();
        partyOfFirst();
        roomRefused();
        roomFourths();
        guestRefused();
        guestNobody();
        guestFirst();
    }

    /** The umbrellas go round: each has that of the next. */
    private static String[] round(int many) {
        String[] steps = new String[many];
        for (int u = 0; u < many; u++) {
            steps[u] = "lend " + u + " " + (u + 1) % many;
        }
        return steps;
    }

    // ---- put right

    private void putRightRefused() {
        edges.sentence(25, "NONE: 1 (no COUNTY).");
        edges.refusesWithoutCounty("putRight");
    }

    private void putRightMost() {
        edges.sentence(25, "How many are RIGHT by PUT RIGHT: none, some, all.");
        edges.fromLeast();
        edges.answers("putRight", 0);
        edges.fromFull();
        edges.answers("putRight", 3);
        edges.from(Counties.silks(5));
        edges.answers("putRight", 5);
        for (int many = 2; many <= 5; many++) {
            edges.from(Counties.silks(many), round(many));
            // Three EXCHANGES put four right at most, of five that go round only three.
            edges.answers("putRight", many == 5 ? 3 : many);
        }
        edges.sentence(25, "two umbrellas that not one and the same HAS (or nobody) are changed.");
        edges.from(Counties.silks(2), "lend 0 1");
        edges.answers("putRight", 1);
        edges.answers("exchanges", 0);
        edges.from(Counties.silks(2), "leave 0", "leave 1");
        edges.answers("putRight", 0);
        edges.answers("exchanges", 0);
        edges.from(Counties.silks(2), "leave 0", "lend 1 0");
        edges.answers("putRight", 1);
        edges.answers("exchangeAt 0", 1);
    }

    private void exchangesRefused() {
        edges.sentence(26, "NONE: 1 (no COUNTY).");
        edges.refusesWithoutCounty("exchanges");
    }

    private void exchangesUpToThree() {
        edges.sentence(26, "How many EXCHANGES it has: up to three, the shortest of like ones.");
        edges.fromLeast();
        edges.answers("exchanges", 0);
        edges.fromFull();
        edges.answers("exchanges", 1);
        edges.from(Counties.silks(5));
        edges.answers("exchanges", 0);
        for (int many = 2; many <= 5; many++) {
            edges.from(Counties.silks(many), round(many));
            edges.answers("exchanges", Math.min(many - 1, 3));
        }
        edges.from(Counties.silks(3), "exchange 0 1");
        edges.goes("exchanges = 1", "exchange 0 1 = 1", "exchanges = 0", "exchangeAt 0 = -1", "trouble = 1", "putRight = 3", "exchange 1 2 = 1",
            "exchange 0 1 = 1", "exchanges = 2", "exchangeAt 0 = 1", "exchangeAt 1 = 12");
        edges.from(Counties.silks(5), "exchange 0 1", "exchange 2 3");
        edges.answers("exchanges", 2);
        edges.answers("putRight", 5);
    }

    private void exchangeAtRefused() {
        edges.sentence(27, "NONE: 1 (i, too).");
        edges.refusesWithoutCounty("exchangeAt 0", "exchangeAt -1", "exchangeAt 3");
        edges.fromLeast();
        edges.refusesNumbers("exchangeAt %", 1, 0, 1, 2, 3);
        edges.fromFull();
        edges.refusesNumbers("exchangeAt %", 1, 1, 2, 3);
        for (int many = 2; many <= 5; many++) {
            edges.from(Counties.silks(many), round(many));
            edges.refusesNumbers("exchangeAt %", 1, Math.min(many - 1, 3), 3, 4);
        }
    }

    private void exchangeAtFirst() {
        edges.sentence(27, "The i-th; the first by its EXCHANGES, each 10 times the lesser umbrella and the other.");
        edges.fromFull();
        edges.answers("exchangeAt 0", 14);
        for (int many = 2; many <= 5; many++) {
            edges.from(Counties.silks(many), round(many));
            for (int i = 0; i < Math.min(many - 1, 3); i++) {
                edges.answers("exchangeAt " + i, i + 1);
            }
        }
        edges.from(Counties.silks(5), "exchange 3 4");
        edges.answers("exchangeAt 0", 34);
        edges.from(Counties.silks(5), "exchange 4 3", "exchange 1 0");
        edges.answers("exchangeAt 0", 1);
        edges.answers("exchangeAt 1", 34);
    }

    // ---- a party

    private void partyRefused() {
        edges.sentence(28, "people, as bits (1 .. all); NONE: 1.");
        edges.refusesOtherPeople("party %");
    }

    private void partyRoom() {
        edges.sentence(28, "-2 there isn't room for all; no more than a fourth of its ribs (downwards) under each.");
        edges.fromLeast();
        edges.answers("party 1", -2);
        edges.fromFull();
        edges.answers("party 1", -2);
        edges.answers("party 8", -2);
        edges.answers("party 32", -2);
        edges.answers("party 41", -2);
        for (int ribs = 4; ribs <= 12; ribs++) {
            edges.from("county lapse 1 gust 0 rains 0;person a plain;person b plain;person c plain;person d plain"
                + ";umbrella u silk lands 9 ribs " + ribs + " with a");
            for (int many = 1; many <= 4; many++) {
                boolean room = many <= ribs / 4;
                edges.answers("party " + ((1 << many) - 1), room ? 9 * (many - 1) : -2);
            }
            edges.answers("party 2", -2);
        }
        // All under what one of them has, as many as there is room for, and one more.
        edges.from(Counties.silks(5));
        edges.answers("party 31", 0);
        edges.from(Counties.silks(5) + ";person f plain");
        edges.answers("party 31", 0);
        edges.answers("party 63", -2);
        edges.answers("party 32", -2);
        edges.from(Counties.silks(5), "leave 4");
        edges.answers("party 31", -2);
        edges.answers("party 15", 0);
    }

    private void partyDanger() {
        edges.sentence(28, "DANGER of the BEST: for each who isn't he whose TITLE it is, its lands: least.");
        edges.fromFull();
        edges.answers("party 2", 0);
        edges.answers("party 4", 99);
        edges.answers("party 16", 0);
        edges.answers("party 63", 297);
        edges.answers("party 34", 0);
        edges.from("county lapse 1 gust 0 rains 0;person a plain;person b plain;person c plain;person d plain;person e plain;person f plain"
            + ";umbrella u stick lands 99 ribs 12 with a;umbrella v stick lands 99 ribs 12 with a");
        edges.answers("party 63", 594);
        edges.answers("party 1", 99);
        edges.from("county lapse 1 gust 0 rains 0;person a plain;umbrella u stick lands 0 ribs 4 with a");
        edges.answers("party 1", 0);
    }

    private void partyOnlyJustBetter() {
        edges.sentence(28, "BEST: least DANGER, be it by one land only.");
        String head = "county lapse 1 gust 0 rains 0;person a plain;person b plain;person k child";
        edges.from(head + ";umbrella u silk lands 1 ribs 4 with b;umbrella v silk lands 1 ribs 4 with a");
        stand(3, 0, 1, 0);
        edges.from(head + ";umbrella u stick lands 0 ribs 4 with b;umbrella v silk lands 5 ribs 4 with a");
        stand(3, 0, 1, 0);
        edges.from(head + ";umbrella u stick lands 0 ribs 4 with b;umbrella v silk lands 5 ribs 8 with a");
        stand(3, 0, 1, 0);
        edges.from(head + ";umbrella u stick lands 4 ribs 4 with k;umbrella v stick lands 3 ribs 4 with k");
        stand(4, 3, -2, -2, 1);
        edges.from(head + ";umbrella u stick lands 4 ribs 4 with k;umbrella v stick lands 4 ribs 4 with k;umbrella w stick lands 3 ribs 8 with k");
        stand(7, 10, 0, 2, 2);
        edges.from(head + ";umbrella u stick lands 1 ribs 12 with k;umbrella v stick lands 0 ribs 12 with k");
        stand(7, 0, 1, 1, 1);
        stand(5, 0, 1, -2, 1);
    }

    private void stand(int people, int danger, int... under) {
        edges.answers("party " + people, danger);
        for (int p = 0; p < under.length; p++) {
            edges.answers("partyOf " + people + " " + p, under[p]);
        }
    }

    private void partyOfRefused() {
        edges.sentence(29, "NONE: 1.");
        edges.refusesOtherPeople("partyOf % 0");
        edges.refusesOtherPeople("partyOf % 6");
        edges.refusesOtherPersons("partyOf 1 %");
        edges.fromFull();
        edges.refusesNumbers("partyOf 63 %", 1, 6, 7);
        edges.refusesNumbers("partyOf 64 %", 1, 0, 5, 6);
    }

    private void partyOfNoRoom() {
        edges.sentence(29, "6 (no room).");
        edges.fromLeast();
        edges.refuses("partyOf 1 0", 6);
        edges.fromFull();
        edges.refuseAll(6, "partyOf 1 0", "partyOf 8 3", "partyOf 32 5", "partyOf 41 0", "partyOf 41 3", "partyOf 41 5");
        edges.from(Counties.silks(5) + ";person f plain", "lend 0 1");
        edges.refuseAll(6, "partyOf 63 0", "partyOf 63 5", "partyOf 1 0");
        edges.from(Counties.silks(3), "leave 0");
        edges.refuseAll(6, "partyOf 7 0", "partyOf 7 2", "partyOf 1 0");
    }

    private void partyOfNotThere() {
        edges.sentence(29, "-2 he isn't there.");
        edges.fromFull();
        edges.answers("partyOf 2 0", -2);
        edges.answers("partyOf 2 5", -2);
        edges.answers("partyOf 62 0", -2);
        edges.answers("partyOf 31 5", -2);
        edges.from(Counties.silks(2));
        edges.answers("partyOf 1 0", 0);
        edges.answers("partyOf 1 1", -2);
        edges.answers("partyOf 2 0", -2);
        edges.answers("partyOf 2 1", 1);
    }

    private void partyOfFirst() {
        edges.sentence(29, "Under which umbrella one stands by it: of like ones the first by people's umbrellas.");
        edges.fromFull();
        int[] due = {0, 0, 0, 2, 3, 4};
        for (int p = 0; p < 6; p++) {
            edges.answers("partyOf 63 " + p, due[p]);
        }
        edges.from("county lapse 1 gust 0 rains 0;person a plain;person b plain;umbrella u stick lands 3 ribs 4 with b;umbrella v stick lands 3 ribs 11 with b");
        edges.answers("partyOf 3 0", 0);
        edges.answers("partyOf 3 1", 1);
        edges.answers("partyOf 2 1", 0);
        // A place is given up where another one's title makes the danger less.
        edges.from("county lapse 1 gust 0 rains 0;person a plain;person b plain;umbrella u silk lands 50 ribs 4 with b;umbrella v silk lands 60 ribs 4 with a");
        edges.answers("party 3", 0);
        edges.answers("partyOf 3 0", 1);
        edges.answers("partyOf 3 1", 0);
    }

    private void roomRefused() {
        edges.sentence(30, "NONE: 1.");
        edges.refusesOtherPeople("room %");
    }

    private void roomFourths() {
        edges.sentence(30, "How many there is room for under umbrellas that these HAVE.");
        edges.fromLeast();
        edges.answers("room 1", 0);
        edges.fromFull();
        int[] due = {0, 6, 3, 0, 3, 0};
        for (int p = 0; p < 6; p++) {
            edges.answers("room " + (1 << p), due[p]);
        }
        edges.answers("room 63", 12);
        edges.answers("room 62", 12);
        edges.answers("room 61", 6);
        edges.from(Counties.FULL);
        edges.answers("room 63", 15);
        for (int ribs = 4; ribs <= 12; ribs++) {
            edges.from("county lapse 1 gust 0 rains 0;person a plain;person b plain;umbrella u silk lands 9 ribs " + ribs + " with a"
                + ";umbrella v silk lands 9 ribs " + ribs);
            edges.answers("room 1", ribs / 4);
            edges.answers("room 2", 0);
            edges.answers("room 3", ribs / 4);
        }
    }

    // ---- a guest

    private void guestRefused() {
        edges.sentence(24, "NONE: 1.");
        edges.refusesOtherPeople("guest %");
    }

    private void guestNobody() {
        edges.sentence(24, "-2 there is nobody else, or room with nobody.");
        edges.fromLeast();
        edges.answers("guest 1", -2);
        edges.fromFull();
        edges.answers("guest 63", -2);
        edges.from(Counties.silks(2), "leave 0", "leave 1");
        edges.answers("guest 1", -2);
        edges.answers("guest 2", -2);
        edges.answers("guest 3", -2);
        // One place for two.
        edges.from(Counties.silks(2), "leave 1");
        edges.answers("guest 1", -2);
        edges.answers("guest 2", -2);
        edges.from(Counties.silks(2), "lend 1 0");
        edges.answers("guest 1", 1);
        edges.answers("guest 2", 0);
    }

    private void guestFirst() {
        edges.sentence(24, "Who isn't among people, but with whom the BEST PARTY'S DANGER is least, the first such.");
        edges.fromFull();
        edges.answers("guest 1", 1);
        edges.answers("guest 8", 1);
        edges.answers("guest 9", 1);
        edges.answers("guest 62", 0);
        edges.answers("guest 31", 5);
        edges.answers("guest 2", 4);
        edges.answers("guest 34", 4);
        edges.from(Counties.silks(5));
        edges.answers("guest 1", 1);
        edges.answers("guest 16", 0);
        edges.answers("guest 15", 4);
    }
}
