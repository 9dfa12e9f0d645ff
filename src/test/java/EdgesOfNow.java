/** Boundary cases of promises 6 to 10 and 21 to 23, and of Term II as it is at first: what is so now. */
final class EdgesOfNow {
    private static final String ONE = "county lapse 1 gust 0 rains 0;person p plain";

    private final Edges edges;

    EdgesOfNow(Edges edges) {
        this.edges = edges;
    }

    void all() {
        umbrellaNone();
        umbrellaWhat();
        umbrellaNobody();
        titleAtFirst();
        personNone();
        personWhat();
        personBits();
        alikeNone();
        alikeOnes();
        rightNone();
        rightOnes();
        richestNone();
        richestOnes();
        owingNone();
        owingOnes();
        changeNone();
        changeBelowZero();
        lapsesInNone();
        lapsesInDays();
        lapsesNever();
    }

    private void umbrellaNone() {
        edges.sentence(6, "NONE: 1.");
        for (int what = 0; what <= 4; what++) {
            edges.refusesOtherUmbrellas("umbrella % " + what);
        }
        edges.fromLeast();
        edges.refusesNumbers("umbrella 0 %", 1, 5, 6);
        edges.refusesNumbers("umbrella 1 %", 1, 0, 5);
        edges.fromFull();
        edges.refusesNumbers("umbrella 4 %", 1, 5, 6);
        edges.refusesNumbers("umbrella 5 %", 1, 4, 5);
    }

    private void umbrellaWhat() {
        edges.sentence(6, "Of an umbrella 0 KIND (0 silk, 1 cotton, 2 stick, 3 parasol), 1 lands, 2 ribs, 3 who HAS it, 4 whose TITLE.");
        edges.fromFull();
        int[][] due = {{0, 99, 12, 1, 1}, {1, 99, 12, -2, 1}, {2, 99, 12, 2, -2}, {3, 99, 12, 4, 4}, {1, 99, 12, 1, 5}};
        for (int u = 0; u < 5; u++) {
            for (int what = 0; what < 5; what++) {
                edges.answers("umbrella " + u + " " + what, due[u][what]);
            }
        }
    }

    private void umbrellaNobody() {
        edges.sentence(6, "who HAS it NOW (-2 nobody), whose TITLE it is NOW (-2).");
        edges.fromLeast();
        edges.answers("umbrella 0 0", 2);
        edges.answers("umbrella 0 1", 0);
        edges.answers("umbrella 0 2", 4);
        edges.answers("umbrella 0 3", -2);
        edges.answers("umbrella 0 4", -2);
        edges.from(Counties.SMALL, "leave 0");
        edges.answers("umbrella 0 3", -2);
        edges.answers("umbrella 0 4", 0);
        edges.from(Counties.SMALL + ";lent u p day 0;left u day 40;person q plain;lent u q day 40;rain day 40");
        edges.answers("umbrella 0 3", 0);
        edges.answers("umbrella 0 4", 0);
    }

    private void titleAtFirst() {
        edges.sentence(6, "its TITLE at first his who HAS it as told (nobody's of a stick, or if that is a child).");
        String[] sorts = {"plain", "child", "careless"};
        String[] kinds = {"silk", "cotton", "stick", "parasol"};
        for (String sort : sorts) {
            for (String kind : kinds) {
                String text = "county lapse 1 gust 0 rains 0;person z plain;person p " + sort + ";umbrella u " + kind + " lands 1 ribs 4";
                edges.from(text);
                edges.answers("umbrella 0 3", -2);
                edges.answers("umbrella 0 4", -2);
                edges.from(text + " with p");
                edges.answers("umbrella 0 3", 1);
                edges.answers("umbrella 0 4", kind.equals("stick") || sort.equals("child") ? -2 : 1);
            }
        }
    }

    private void personNone() {
        edges.sentence(7, "NONE: 1.");
        for (int what = 0; what <= 2; what++) {
            edges.refusesOtherPersons("person % " + what);
        }
        edges.fromLeast();
        edges.refusesNumbers("person 0 %", 1, 3, 4);
        edges.refusesNumbers("person 1 %", 1, 0, 3);
        edges.fromFull();
        edges.refusesNumbers("person 5 %", 1, 3, 4);
        edges.refusesNumbers("person 6 %", 1, 2, 3);
    }

    private void personWhat() {
        edges.sentence(7, "Of a person 0 SORT (0 plain, 1 child, 2 careless), 1 what he HAS NOW, 2 LANDS NOW.");
        edges.fromFull();
        int[][] due = {{0, 0, 0}, {0, 17, 198}, {1, 4, 0}, {1, 0, 0}, {2, 8, 99}, {2, 0, 99}};
        for (int p = 0; p < 6; p++) {
            for (int what = 0; what < 3; what++) {
                edges.answers("person " + p + " " + what, due[p][what]);
            }
        }
        edges.fromLeast();
        edges.answers("person 0 0", 1);
        edges.answers("person 0 1", 0);
        edges.answers("person 0 2", 0);
    }

    private void personBits() {
        edges.sentence(7, "what he HAS NOW, as bits; LANDS of all umbrellas whose TITLE he has: none, and all.");
        edges.from(Counties.FULL, "lend 0 3", "lend 1 3", "lend 2 3", "lend 3 3", "lend 4 3");
        edges.answers("person 3 1", 31);
        edges.answers("person 3 2", 0);
        edges.answers("person 0 1", 0);
        edges.answers("person 0 2", 99);
        edges.from(Counties.FULL, "lend 0 5", "lend 1 5", "lend 2 5", "lend 3 5", "day true");
        // He left one with the fewest lands, the first such, when all were his.
        edges.answers("person 5 1", 30);
        edges.answers("person 5 2", 297);
        edges.from(five("silk"), "lend 1 0", "lend 2 0", "lend 3 0", "lend 4 0", "day true");
        edges.answers("person 0 1", 31);
        edges.answers("person 0 2", 495);
    }

    /** Five of one kind, with 99 lands each, all with the first of two plain people but those that are lent later. */
    private static String five(String kind) {
        StringBuilder text = new StringBuilder("county lapse 2 gust 0 rains 0;person p plain;person q plain");
        for (char name = 'a'; name <= 'e'; name++) {
            text.append(";umbrella ").append(name).append(' ').append(kind).append(" lands 99 ribs 4 with ").append(name == 'a' ? 'p' : 'q');
        }
        return text.toString();
    }

    private void alikeNone() {
        edges.sentence(8, "NONE: 1.");
        edges.refusesOtherUmbrellas("alike %");
    }

    private void alikeOnes() {
        edges.sentence(8, "Umbrellas ALIKE to one (not itself), as bits: two of one KIND with as many ribs.");
        edges.fromLeast();
        edges.answers("alike 0", 0);
        edges.fromFull();
        int[] due = {0, 16, 0, 0, 2};
        for (int u = 0; u < 5; u++) {
            edges.answers("alike " + u, due[u]);
        }
        for (String kind : new String[] {"silk", "cotton", "stick", "parasol"}) {
            edges.from(five(kind));
            for (int u = 0; u < 5; u++) {
                edges.answers("alike " + u, 31 - (1 << u));
            }
        }
        edges.from(ONE + ";umbrella a silk lands 1 ribs 11;umbrella b silk lands 1 ribs 12;umbrella c cotton lands 1 ribs 11"
            + ";umbrella d silk lands 99 ribs 11 with p");
        edges.answers("alike 0", 8);
        edges.answers("alike 1", 0);
        edges.answers("alike 2", 0);
        edges.answers("alike 3", 1);
    }

    private void rightNone() {
        edges.sentence(9, "NONE: 1 (no COUNTY).");
        edges.refusesWithoutCounty("right");
    }

    private void rightOnes() {
        edges.sentence(9, "RIGHT, as bits: umbrellas whose TITLE is somebody's who HAS them.");
        edges.fromLeast();
        edges.answers("right", 0);
        edges.fromFull();
        edges.answers("right", 1 + 8);
        edges.from(five("cotton"));
        edges.answers("right", 31);
        edges.from(five("cotton"), "lend 0 1", "lend 1 0");
        edges.answers("right", 4 + 8 + 16);
        edges.from(five("cotton"), "day false", "day false");
        edges.answers("right", 0);
        // Nobody's title, and nobody has it: not right.
        edges.from(five("cotton"), "leave 4", "day false", "day false");
        edges.answers("right", 0);
        edges.from(five("stick"));
        edges.answers("right", 0);
    }

    private void richestNone() {
        edges.sentence(10, "NONE: 1 (no COUNTY).");
        edges.refusesWithoutCounty("richest");
    }

    private void richestOnes() {
        edges.sentence(10, "Who has most LANDS, the first such; -2 nobody has any.");
        edges.fromLeast();
        edges.answers("richest", -2);
        edges.from(ONE + ";umbrella u silk lands 0 ribs 4 with p");
        edges.answers("richest", -2);
        edges.from(ONE + ";umbrella u silk lands 1 ribs 4 with p");
        edges.answers("richest", 0);
        edges.fromFull();
        edges.answers("richest", 1);
        edges.from(Counties.FULL);
        edges.answers("richest", 0);
        edges.from(Counties.FULL, "lend 0 5", "day true");
        edges.answers("richest", 5);
        edges.from(Counties.FULL, "lend 0 1", "lend 1 0", "day true");
        edges.answers("richest", 0);
        edges.from(five("cotton"), "day false", "day false");
        edges.answers("richest", -2);
    }

    private void owingNone() {
        edges.sentence(21, "NONE: 1 (unlike).");
        edges.refusesOtherPersons("owing % 0");
        edges.refusesOtherPersons("owing 0 %");
        edges.refusesWithoutCounty("owing 0 1", "owing 1 0");
        edges.fromLeast();
        edges.refuseAll(1, "owing 0 0", "owing 1 1", "owing 0 1", "owing 1 0");
        edges.fromFull();
        for (int p = 0; p < 6; p++) {
            edges.refuses("owing " + p + " " + p, 1);
        }
        edges.refuseAll(1, "owing 6 5", "owing 5 6", "owing 6 6", "owing -2 0", "owing 0 -2", "owing -2 -2");
    }

    private void owingOnes() {
        edges.sentence(21, "Umbrellas whose TITLE is one person's, but that another one HAS NOW, as bits.");
        edges.fromFull();
        edges.answers("owing 5 1", 16);
        edges.answers("owing 1 5", 0);
        edges.answers("owing 5 0", 0);
        edges.answers("owing 0 5", 0);
        edges.answers("owing 4 5", 0);
        edges.from(five("silk"), "lend 0 1", "day true", "lend 0 0", "lend 1 0", "lend 2 0", "lend 3 0", "lend 4 0");
        edges.answers("owing 1 0", 31);
        edges.answers("owing 0 1", 0);
        edges.from(five("silk"), "leave 0");
        edges.answers("owing 0 1", 0);
        edges.answers("owing 1 0", 0);
    }

    private void changeNone() {
        edges.sentence(22, "-1,000: 1.");
        edges.refusesOtherPersons("change % true");
        edges.refusesOtherPersons("change % false");
    }

    private void changeBelowZero() {
        edges.sentence(22, "By how much LANDS of one are more behind a day with rain, or a DRY one; may be below 0.");
        edges.fromLeast();
        edges.answers("change 0 true", 0);
        edges.answers("change 0 false", 0);
        edges.from(five("silk"), "lend 0 1", "day true", "lend 0 0", "lend 1 0", "lend 2 0", "lend 3 0", "lend 4 0");
        edges.answers("change 0 true", 495);
        edges.answers("change 1 true", -495);
        edges.answers("change 0 false", 0);
        edges.from(five("cotton"), "day false");
        edges.answers("change 0 false", -99);
        edges.answers("change 1 false", -396);
        edges.answers("change 0 true", 0);
        edges.from(five("parasol"), "lend 0 1");
        edges.answers("change 1 false", 99);
        edges.answers("change 0 false", -99);
        edges.answers("change 1 true", 0);
        edges.from(five("parasol"), "lend 0 1", "day false");
        edges.answers("change 1 false", -495);
        edges.from(ONE + ";umbrella u silk lands 1 ribs 4;umbrella v cotton lands 1 ribs 4 with p", "lend 0 0");
        edges.answers("change 0 true", 1);
        edges.answers("change 0 false", -1);
    }

    private void lapsesInNone() {
        edges.sentence(23, "NONE: 1.");
        edges.refusesOtherUmbrellas("lapsesIn %");
    }

    private void lapsesInDays() {
        edges.sentence(23, "Behind how many DRY days (0 .. 30) the TITLE of an umbrella is nobody's first.");
        edges.fromLeast();
        edges.answers("lapsesIn 0", 0);
        for (int lapse : new int[] {1, 2, 29, 30}) {
            String text = "county lapse " + lapse + " gust 0 rains 0;person p plain;person k child;umbrella c cotton lands 1 ribs 4 with p"
                + ";umbrella r parasol lands 1 ribs 4 with p;umbrella d cotton lands 1 ribs 4;umbrella s silk lands 1 ribs 4 with k";
            edges.from(text);
            edges.answers("lapsesIn 0", lapse);
            edges.answers("lapsesIn 1", lapse);
            edges.answers("lapsesIn 2", 0);
            edges.answers("lapsesIn 3", 0);
            String[] dry = new String[lapse - 1];
            java.util.Arrays.fill(dry, "day false");
            edges.from(text, dry);
            edges.answers("lapsesIn 0", 1);
            edges.answers("lapsesIn 1", 1);
            String[] all = new String[lapse];
            java.util.Arrays.fill(all, "day false");
            edges.from(text, all);
            edges.answers("lapsesIn 0", 0);
            edges.answers("lapsesIn 1", 0);
            edges.from(text, "day false", "day true");
            edges.answers("lapsesIn 0", lapse);
            // Rain gives the parasol's title to nobody.
            edges.answers("lapsesIn 1", lapse == 1 ? 0 : lapse);
        }
    }

    private void lapsesNever() {
        edges.sentence(23, "-2 it never is.");
        edges.from(ONE + ";umbrella u silk lands 1 ribs 4 with p;umbrella v silk lands 1 ribs 4;umbrella w stick lands 1 ribs 4 with p");
        edges.answers("lapsesIn 0", -2);
        edges.answers("lapsesIn 1", 0);
        edges.answers("lapsesIn 2", 0);
        edges.from(ONE + ";umbrella u silk lands 1 ribs 4 with p", "leave 0");
        edges.answers("lapsesIn 0", -2);
        edges.fromFull();
        int[] due = {-2, 30, 0, 30, 30};
        for (int u = 0; u < 5; u++) {
            edges.answers("lapsesIn " + u, due[u]);
        }
    }
}
