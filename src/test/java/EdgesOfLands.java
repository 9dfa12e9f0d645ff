/** Boundary cases of promises 31 to 40: gusts, lands divided, heirs, what to lend, centuries. */
final class EdgesOfLands {
    private static final String[] KINDS = {"silk", "cotton", "stick", "parasol"};

    private final Edges edges;

    EdgesOfLands(Edges edges) {
        this.edges = edges;
    }

    void all() {
        wholeRefused();
        wholeHours();
        wholeGusts();
        allWholeRefused();
        allWholeOnes();
        dividedRefused();
        dividedShares();
        heirsRefused();
        heirsLands();
        restsRefused();
        restsOfAllLands();
        mostRefused();
        mostFirst();
        mostLandsMost();
        centuryRefused();
        centuryYears();
        centurySeeds();
        centuryRains();
        untitledRefused();
        untitledOnes();
    }

    private static String gusty(int gust) {
        StringBuilder text = new StringBuilder("county lapse 1 gust " + gust + " rains 0;person p plain;person q plain");
        for (String kind : KINDS) {
            text.append(";umbrella u").append(kind.charAt(1)).append(' ').append(kind).append(" lands 1 ribs 4 with p");
        }
        return text.toString();
    }

    private void share(String call, long upper, long lower) {
        edges.answers(call + " false", upper);
        edges.answers(call + " true", lower);
    }

    // ---- gusts

    private void wholeRefused() {
        edges.sentence(31, "n hours (0 .. 6); -1: 1; 2.");
        for (String lower : new String[] {"true", "false"}) {
            edges.refusesOtherUmbrellas("whole % 0 " + lower);
            edges.refusesOtherUmbrellas("whole % 7 " + lower);
            edges.fromLeast();
            edges.refusesNumbers("whole 0 % " + lower, 2, 7, 8);
            edges.fromFull();
            edges.refusesNumbers("whole 4 % " + lower, 2, 7, 8);
        }
    }

    private void wholeHours() {
        edges.sentence(31, "How likely an umbrella is WHOLE behind n hours, in lowest terms.");
        edges.fromLeast();
        for (int n = 0; n <= 6; n++) {
            share("whole 0 " + n, 1, 1);
        }
        edges.fromFull();
        long lower = 1;
        long silk = 1;
        for (int n = 0; n <= 6; n++) {
            share("whole 0 " + n, silk, lower);
            for (int u = 1; u < 5; u++) {
                share("whole " + u + " " + n, 1, lower);
            }
            lower *= 100;
            silk *= 51;
        }
        edges.from(gusty(50));
        share("whole 1 0", 1, 1);
        share("whole 1 1", 1, 2);
        share("whole 1 6", 1, 64);
        share("whole 0 6", 729, 4096);
    }

    private void wholeGusts() {
        edges.sentence(31, "each by the chance told (of silk half, downwards).");
        int[][] due = {{0, 1, 1, 1, 1}, {1, 1, 1, 99, 100}, {2, 99, 100, 49, 50}, {3, 99, 100, 97, 100}, {98, 51, 100, 1, 50}, {99, 51, 100, 1, 100}};
        for (int[] row : due) {
            edges.from(gusty(row[0]));
            share("whole 0 1", row[1], row[2]);
            for (int u = 1; u < 4; u++) {
                share("whole " + u + " 1", row[3], row[4]);
            }
        }
    }

    private void allWholeRefused() {
        edges.sentence(32, "n 0 .. 1; -1: 1; 2.");
        for (String lower : new String[] {"true", "false"}) {
            edges.refusesOtherPersons("allWhole % 0 " + lower);
            edges.refusesOtherPersons("allWhole % 2 " + lower);
            edges.fromLeast();
            edges.refusesNumbers("allWhole 0 % " + lower, 2, 2, 6);
            edges.fromFull();
            edges.refusesNumbers("allWhole 5 % " + lower, 2, 2, 6);
        }
    }

    private void allWholeOnes() {
        edges.sentence(32, "How likely all that a person HAS are (1 by 1, if none).");
        edges.fromLeast();
        share("allWhole 0 0", 1, 1);
        share("allWhole 0 1", 1, 1);
        edges.fromFull();
        share("allWhole 0 1", 1, 1);
        share("allWhole 5 1", 1, 1);
        share("allWhole 1 0", 1, 1);
        share("allWhole 1 1", 51, 10_000);
        share("allWhole 4 1", 1, 100);
        edges.from(Counties.FULL, "lend 0 3", "lend 1 3", "lend 2 3", "lend 3 3", "lend 4 3");
        share("allWhole 3 0", 1, 1);
        share("allWhole 3 1", 51, 10_000_000_000L);
        edges.from(gusty(50));
        share("allWhole 0 1", 3, 32);
        share("allWhole 1 1", 1, 1);
        edges.from(gusty(0));
        share("allWhole 0 1", 1, 1);
    }

    // ---- lands divided, heirs

    private void dividedRefused() {
        edges.sentence(33, "so many (1 .. 9); NONE: 1 (u); 2; 1 (i).");
        edges.refusesOtherUmbrellas("divided % 1 0");
        edges.refusesOtherUmbrellas("divided % 0 0");
        edges.refusesOtherUmbrellas("divided % 10 10");
        edges.fromFull();
        edges.refusesNumbers("divided 4 % 0", 2, 0, 10, 11);
        edges.refusesNumbers("divided 4 % 10", 2, 0, 10, 11);
        edges.refusesNumbers("divided 4 % -1", 2, 0, 10, 11);
        for (int many = 1; many <= 9; many++) {
            edges.refusesNumbers("divided 4 " + many + " %", 1, many, many + 1);
        }
        edges.fromLeast();
        edges.refuseAll(2, "divided 0 0 0", "divided 0 10 0");
        edges.refuseAll(1, "divided 1 0 0", "divided 1 10 0", "divided 0 1 1", "divided 0 9 9");
    }

    private void dividedShares() {
        edges.sentence(33, "its lands go to so many people alike, downwards; what is left one by one to the first ones.");
        edges.fromLeast();
        edges.answers("divided 0 1 0", 0);
        edges.answers("divided 0 9 0", 0);
        edges.answers("divided 0 9 8", 0);
        for (int lands : new int[] {1, 8, 9, 10, 17, 98, 99}) {
            edges.from("county lapse 1 gust 0 rains 0;person p plain;umbrella u stick lands " + lands + " ribs 4");
            for (int many = 1; many <= 9; many++) {
                int[] shares = new int[many];
                // One by one round and round gives each as much.
                for (int land = 0; land < lands; land++) {
                    shares[land % many]++;
                }
                for (int i = 0; i < many; i++) {
                    edges.answers("divided 0 " + many + " " + i, shares[i]);
                }
            }
        }
    }

    private void heirsRefused() {
        edges.sentence(34, "closeness (0 .. 6), so much land (0 .. 99); -100: 1 (no COUNTY); 2.");
        edges.refusesWithoutCounty("heirs 0 0 0 true", "heirs 99 6 6 false", "heirs 100 0 0 true", "heirs 0 7 0 true", "heirs 0 0 -1 false");
        for (String ofOther : new String[] {"true", "false"}) {
            edges.fromLeast();
            edges.refusesNumbers("heirs % 0 0 " + ofOther, 2, 100, 101);
            edges.refusesNumbers("heirs 0 % 0 " + ofOther, 2, 7, 8);
            edges.refusesNumbers("heirs 0 0 % " + ofOther, 2, 7, 8);
            edges.fromFull();
            edges.refusesNumbers("heirs % 6 6 " + ofOther, 2, 100, 101);
            edges.refusesNumbers("heirs 99 % 6 " + ofOther, 2, 7, 8);
            edges.refusesNumbers("heirs 99 6 % " + ofOther, 2, 7, 8);
        }
    }

    private void heirsLands() {
        edges.sentence(34, "who stands closer gets lands told, both half (downwards) if alike close; each loses his closeness twice.");
        edges.fromLeast();
        for (int lands : new int[] {0, 1, 2, 98, 99}) {
            for (int close : new int[] {0, 1, 5, 6}) {
                edges.answers("heirs " + lands + " " + close + " " + close + " false", lands / 2 - 2 * close);
                edges.answers("heirs " + lands + " " + close + " " + close + " true", lands / 2 - 2 * close);
            }
            edges.answers("heirs " + lands + " 6 5 false", lands - 12);
            edges.answers("heirs " + lands + " 6 5 true", -10);
            edges.answers("heirs " + lands + " 5 6 false", -10);
            edges.answers("heirs " + lands + " 5 6 true", lands - 12);
            edges.answers("heirs " + lands + " 1 0 false", lands - 2);
            edges.answers("heirs " + lands + " 1 0 true", 0);
            edges.answers("heirs " + lands + " 0 6 false", 0);
            edges.answers("heirs " + lands + " 0 6 true", lands - 12);
        }
    }

    private void restsRefused() {
        edges.sentence(35, "NONE: 1 (no COUNTY); 2.");
        edges.refusesWithoutCounty("rests 0", "rests 99", "rests 100", "rests -1");
        edges.fromLeast();
        edges.refusesNumbers("rests %", 2, 100, 101);
        edges.fromFull();
        edges.refusesNumbers("rests %", 2, 100, 101);
        edges.sentence(36, "NONE: likewise.");
        edges.refusesWithoutCounty("rest 0", "rest 99", "rest 100", "rest -1");
        edges.fromLeast();
        edges.refusesNumbers("rest %", 2, 100, 101);
        edges.fromFull();
        edges.refusesNumbers("rest %", 2, 100, 101);
    }

    private void restsOfAllLands() {
        edges.fromLeast();
        for (int lands = 0; lands <= 99; lands++) {
            int many = 0;
            int first = -2;
            for (int pair = 48; pair >= 0; pair--) {
                if (rests(lands, pair / 7, pair % 7)) {
                    many++;
                    first = 10 * (pair / 7) + pair % 7;
                }
            }
            edges.sentence(35, "How many RESTS: a pair by which neither could have more alone.");
            edges.answers("rests " + lands, many);
            edges.sentence(36, "The first, by the one's closeness, then the other one's: 10 times and; -2.");
            edges.answers("rest " + lands, first);
        }
        edges.sentence(36, "The first; -2.");
        edges.answers("rest 0", 0);
        edges.answers("rest 4", 0);
        edges.answers("rest 5", -2);
        edges.answers("rest 23", -2);
        edges.answers("rest 24", 66);
        edges.answers("rest 99", 66);
    }

    private static boolean rests(int lands, int one, int other) {
        for (int alone = 0; alone <= 6; alone++) {
            if (has(lands, alone, other) > has(lands, one, other) || has(lands, alone, one) > has(lands, other, one)) {
                return false;
            }
        }
        return true;
    }

    private static int has(int lands, int close, int against) {
        int[] byOrder = {0, lands / 2, lands};
        return byOrder[Integer.compare(close, against) + 1] - close - close;
    }

    // ---- what to lend

    private void mostRefused() {
        edges.sentence(37, "NONE: 1.");
        edges.refusesOtherPersons("most %");
        edges.sentence(38, "NONE: 1.");
        edges.refusesOtherPersons("mostLands %");
    }

    private void mostFirst() {
        edges.sentence(37, "the umbrella by which his LANDS are most then, the first such.");
        edges.fromLeast();
        edges.answers("most 0", 0);
        edges.fromFull();
        for (int p = 0; p < 6; p++) {
            edges.answers("most " + p, 0);
        }
        String head = "county lapse 1 gust 0 rains 0;person p plain;person k child;person c careless";
        edges.from(head + ";umbrella a stick lands 99 ribs 4;umbrella b parasol lands 99 ribs 4;umbrella d silk lands 0 ribs 4"
            + ";umbrella e cotton lands 1 ribs 4;umbrella f silk lands 1 ribs 4");
        edges.answers("most 0", 3);
        edges.answers("most 1", 0);
        edges.answers("most 2", 3);
        edges.from(head + ";umbrella a silk lands 1 ribs 4;umbrella b silk lands 2 ribs 4;umbrella d silk lands 3 ribs 4"
            + ";umbrella e silk lands 4 ribs 4;umbrella f silk lands 5 ribs 4");
        edges.answers("most 0", 4);
        edges.sentence(37, "one is lent an umbrella NOW (if he hasn't it).");
        edges.from(head + ";umbrella a silk lands 9 ribs 4 with p");
        edges.answers("most 0", 0);
        edges.answers("mostLands 0", 9);
        edges.answers("mostLands 1", 0);
        edges.answers("mostLands 2", 9);
        edges.from(head + ";umbrella a silk lands 9 ribs 4 with k;umbrella b silk lands 8 ribs 4 with p");
        edges.answers("most 0", 0);
        edges.answers("most 1", 0);
    }

    private void mostLandsMost() {
        edges.sentence(38, "LANDS by it then.");
        for (int best = 0; best < 5; best++) {
            StringBuilder text = new StringBuilder("county lapse 1 gust 0 rains 0;person p plain");
            for (int u = 0; u < 5; u++) {
                text.append(";umbrella ").append((char) ('a' + u)).append(" cotton lands ").append(u == best ? 1 : 0).append(" ribs 4");
            }
            edges.from(text.toString());
            edges.answers("most 0", best);
            edges.answers("mostLands 0", 1);
        }
        edges.fromLeast();
        edges.answers("mostLands 0", 0);
        edges.fromFull();
        int[] due = {99, 297, 0, 0, 198, 99};
        for (int p = 0; p < 6; p++) {
            edges.answers("mostLands " + p, due[p]);
        }
        edges.from(Counties.silks(5).replace("lands 10", "lands 99"), "lend 0 1", "lend 2 1", "lend 3 1");
        // He has four; the fifth makes all lands his.
        edges.answers("most 1", 4);
        edges.answers("mostLands 1", 495);
        edges.answers("most 0", 0);
        edges.answers("mostLands 0", 99);
    }

    // ---- centuries

    private void centuryRefused() {
        edges.sentence(39, "n (0 .. 60) years by a SEED (0 .. 65,536); NONE: 1; 2.");
        edges.refusesOtherPersons("century % 0 0");
        edges.refusesOtherPersons("century % -1 61");
        edges.fromLeast();
        edges.refusesNumbers("century 0 % 0", 2, 65537, 65538);
        edges.refusesNumbers("century 0 0 %", 2, 61, 62);
        edges.fromFull();
        edges.refusesNumbers("century 5 % 60", 2, 65537, 65538);
        edges.refusesNumbers("century 5 65536 %", 2, 61, 62);
    }

    private void centuryYears() {
        edges.sentence(39, "A CENTURY of n (0 .. 60) years: LANDS of a person then.");
        edges.fromLeast();
        edges.answers("century 0 0 0", 0);
        edges.answers("century 0 0 60", 0);
        edges.answers("century 0 65536 60", 0);
        edges.from(Counties.FULL);
        int[] first = {99, 99, 0, 0, 99, 99};
        // Each draw of this seed is 65,536: t is lent to ca each year, and it rains.
        int[] then = {99, 0, 0, 0, 198, 99};
        for (int p = 0; p < 6; p++) {
            edges.answers("century " + p + " 0 0", first[p]);
            edges.answers("century " + p + " 65536 0", first[p]);
            edges.answers("century " + p + " 65536 1", then[p]);
            edges.answers("century " + p + " 65536 60", then[p]);
        }
        edges.fromFull();
        // From NOW: s and t are pb's then, w is cb's but pb has it.
        edges.answers("century 1 0 0", 198);
        edges.answers("century 1 65536 1", 198);
        edges.answers("century 5 65536 1", 0);
        edges.answers("century 4 65536 60", 198);
    }

    private void centurySeeds() {
        edges.sentence(39, "SEED becomes (75 times SEED and 74) mod 65,537.");
        edges.from(Counties.FULL);
        // 872 becomes 65,474 (w, to ca), 873 goes round to 12 (u, to ka).
        edges.answers("century 4 872 1", 198);
        edges.answers("century 5 872 1", 0);
        edges.answers("century 4 873 1", 99);
        edges.answers("century 5 873 1", 99);
        for (int seed : new int[] {0, 1, 872, 873, 874, 65535, 65536}) {
            String text = "county lapse 30 gust 0 rains 50;person a plain;person b plain;person c plain"
                + ";umbrella u silk lands 1 ribs 4;umbrella v silk lands 2 ribs 4;umbrella w silk lands 4 ribs 4;umbrella x silk lands 8 ribs 4";
            edges.from(text);
            int[] holder = {-2, -2, -2, -2};
            int[] title = {-2, -2, -2, -2};
            long drawn = seed;
            for (int year = 1; year <= 60; year++) {
                drawn = (75 * drawn + 74) % 65537;
                int u = (int) (drawn % 4);
                drawn = (75 * drawn + 74) % 65537;
                holder[u] = (int) (drawn % 3);
                drawn = (75 * drawn + 74) % 65537;
                for (int i = 0; i < 4 && drawn % 100 < 50; i++) {
                    title[i] = holder[i];
                }
                if (year <= 3 || year >= 59) {
                    for (int p = 0; p < 3; p++) {
                        int lands = 0;
                        for (int i = 0; i < 4; i++) {
                            lands += title[i] == p ? 1 << i : 0;
                        }
                        edges.answers("century " + p + " " + seed + " " + year, lands);
                    }
                }
            }
        }
    }

    private void centuryRains() {
        edges.sentence(39, "a DRAW mod 100: below rains it is a day with rain, else a DRY one.");
        // Each draw of this seed is 36 mod 100.
        int[][] due = {{0, 0}, {35, 0}, {36, 0}, {37, 7}, {38, 7}, {99, 7}};
        for (int[] row : due) {
            edges.from("county lapse 30 gust 0 rains " + row[0] + ";person p plain;umbrella u cotton lands 7 ribs 4");
            edges.answers("century 0 65536 1", row[1]);
            edges.answers("century 0 65536 60", row[1]);
            edges.from("county lapse 30 gust 0 rains " + row[0] + ";person p plain;umbrella u cotton lands 7 ribs 4 with p");
            edges.answers("century 0 65536 29", 7);
            edges.answers("century 0 65536 30", row[1]);
            edges.from("county lapse 30 gust 0 rains " + row[0] + ";person p plain;umbrella u parasol lands 7 ribs 4");
            edges.answers("century 0 65536 1", 7 - row[1]);
        }
    }

    private void untitledRefused() {
        edges.sentence(40, "NONE: 1 (no COUNTY); 2.");
        edges.refusesWithoutCounty("untitled 0 0", "untitled 65537 0", "untitled 0 61", "untitled -1 -1");
        edges.fromLeast();
        edges.refusesNumbers("untitled % 0", 2, 65537, 65538);
        edges.refusesNumbers("untitled 0 %", 2, 61, 62);
        edges.fromFull();
        edges.refusesNumbers("untitled % 60", 2, 65537, 65538);
        edges.refusesNumbers("untitled 65536 %", 2, 61, 62);
    }

    private void untitledOnes() {
        edges.sentence(40, "How many TITLES are nobody's then (sticks too).");
        edges.fromLeast();
        edges.answers("untitled 0 0", 1);
        edges.answers("untitled 65536 60", 1);
        edges.fromFull();
        edges.answers("untitled 0 0", 1);
        edges.answers("untitled 65536 60", 1);
        edges.from(Counties.silks(5));
        edges.answers("untitled 65536 60", 0);
        for (String kind : KINDS) {
            // Rains 50, lapse 9, each draw 36: rain each year; with rains 0 it never rains.
            String text = Counties.silks(5).replace("silk", kind);
            edges.from(text);
            edges.answers("untitled 0 0", kind.equals("stick") ? 5 : 0);
            edges.answers("untitled 65536 60", kind.equals("stick") ? 5 : 0);
            edges.from(text.replace("rains 50", "rains 0"));
            edges.answers("untitled 65536 8", kind.equals("stick") ? 5 : 0);
            edges.answers("untitled 65536 9", kind.equals("silk") ? 0 : 5);
            edges.answers("untitled 65536 60", kind.equals("silk") ? 0 : 5);
        }
    }
}
