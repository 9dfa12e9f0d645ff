import java.util.Arrays;

/** Boundary cases of promises 41 to 50: acts, undoing, marks, and what is told. */
final class EdgesOfActs {
    private final Edges edges;

    EdgesOfActs(Edges edges) {
        this.edges = edges;
    }

    void all() {
        lendRefused();
        lendNotSo();
        lends();
        leaveRefused();
        leaveNotSo();
        leaves();
        exchangeRefused();
        exchangeNotSo();
        exchanges();
        dayRefused();
        dayTitles();
        dryDays();
        carelessOnes();
        undoRefused();
        undoSixteen();
        undoEach();
        markRefused();
        markNumbers();
        backRefused();
        backAll();
        ledRefused();
        ledOnes();
        sizeOthers();
        sizeNothing();
        sizeDry();
        sizeActs();
        sizeMarks();
        troubleNumbers();
        troubleWasnt();
        troubleStays();
    }

    private static String[] times(int many, String step) {
        String[] steps = new String[many];
        Arrays.fill(steps, step);
        return steps;
    }

    // ---- lend, leave, exchange

    private void lendRefused() {
        edges.sentence(41, "false: 1.");
        edges.refusesOtherUmbrellas("lend % 0");
        edges.refusesOtherPersons("lend 0 %");
        edges.fromFull();
        edges.refuseAll(1, "lend 5 6", "lend 5 5", "lend 4 6", "lend -2 -2", "lend 0 -2");
    }

    private void lendNotSo() {
        edges.sentence(41, "5 (he HAS it).");
        edges.fromFull();
        edges.refuseAll(5, "lend 0 1", "lend 2 2", "lend 3 4", "lend 4 1");
        edges.fromLeast("lend 0 0");
        edges.refuses("lend 0 0", 5);
        edges.from(Counties.SMALL);
        edges.refuses("lend 0 0", 5);
    }

    private void lends() {
        edges.sentence(41, "LEND: true: that PERSON HAS it then.");
        edges.fromLeast();
        edges.goes("lend 0 0 = 1", "trouble = 0", "umbrella 0 3 = 0", "umbrella 0 4 = -2", "size 8 = 1", "size 7 = 0", "undo = 1", "umbrella 0 3 = -2");
        edges.fromFull();
        edges.goes("lend 1 5 = 1", "trouble = 0", "umbrella 1 3 = 5", "umbrella 1 4 = 1", "size 8 = 16", "size 9 = 3", "size 10 = 1000");
        edges.goes("lend 0 0 = 1", "umbrella 0 3 = 0", "umbrella 0 4 = 1", "umbrella 4 3 = 1", "lend 0 1 = 1", "umbrella 0 3 = 1");
        // A careless one HAS more than one until a day goes by.
        edges.goes("lend 0 4 = 1", "person 4 1 = 9", "lend 1 4 = 1", "person 4 1 = 11");
    }

    private void leaveRefused() {
        edges.sentence(42, "false: 1.");
        edges.refusesOtherUmbrellas("leave %");
    }

    private void leaveNotSo() {
        edges.sentence(42, "5 (nobody HAS it).");
        edges.fromLeast();
        edges.refuses("leave 0", 5);
        edges.fromFull();
        edges.refuses("leave 1", 5);
        edges.from(Counties.SMALL, "leave 0");
        edges.refuses("leave 0", 5);
    }

    private void leaves() {
        edges.sentence(42, "LEAVE: true: nobody does then.");
        edges.from(Counties.SMALL);
        edges.goes("leave 0 = 1", "trouble = 0", "umbrella 0 3 = -2", "umbrella 0 4 = 0", "size 8 = 1", "undo = 1", "umbrella 0 3 = 0");
        edges.fromFull();
        edges.goes("leave 4 = 1", "trouble = 0", "umbrella 4 3 = -2", "umbrella 4 4 = 5", "size 8 = 16");
        edges.goes("leave 0 = 1", "leave 2 = 1", "leave 3 = 1", "leave 4 = 1", "leave 4 = 0", "trouble = 5", "person 1 1 = 0", "person 1 2 = 198");
    }

    private void exchangeRefused() {
        edges.sentence(43, "false: 1 (unlike).");
        edges.refusesOtherUmbrellas("exchange % 0");
        edges.refusesOtherUmbrellas("exchange 0 %");
        edges.refusesWithoutCounty("exchange 0 1", "exchange 1 0");
        edges.fromLeast();
        edges.refuseAll(1, "exchange 0 0", "exchange 0 1", "exchange 1 0", "exchange 1 1");
        edges.fromFull();
        for (int u = 0; u < 5; u++) {
            edges.refuses("exchange " + u + " " + u, 1);
        }
        edges.refuseAll(1, "exchange 4 5", "exchange 5 4", "exchange 5 5", "exchange -1 -1", "exchange -2 4");
    }

    private void exchangeNotSo() {
        edges.sentence(43, "5 (one HAS both, or nobody HAS either).");
        edges.fromFull();
        edges.refuseAll(5, "exchange 0 4", "exchange 4 0");
        edges.from(Counties.FULL, "leave 0", "leave 4");
        edges.refuseAll(5, "exchange 0 4", "exchange 4 0");
        edges.from(Counties.silks(2), "lend 0 1");
        edges.refuseAll(5, "exchange 0 1", "exchange 1 0");
    }

    private void exchanges() {
        edges.sentence(43, "EXCHANGE: true: who HAS the one HAS the other one then, and the other way round.");
        edges.fromFull();
        edges.goes("exchange 0 3 = 1", "trouble = 0", "umbrella 0 3 = 4", "umbrella 3 3 = 1", "umbrella 0 4 = 1", "umbrella 3 4 = 4", "size 8 = 16");
        edges.goes("exchange 3 0 = 1", "umbrella 0 3 = 4", "umbrella 3 3 = 1");
        // One that nobody HAS, on either side; unlike kinds too.
        edges.goes("exchange 1 2 = 1", "umbrella 1 3 = 2", "umbrella 2 3 = -2");
        edges.goes("exchange 2 1 = 1", "umbrella 1 3 = 2", "umbrella 2 3 = -2", "exchange 1 2 = 1", "umbrella 1 3 = -2");
    }

    // ---- days

    private void dayRefused() {
        edges.sentence(44, "NONE: 1 (no COUNTY).");
        edges.refusesWithoutCounty("day true", "day false");
    }

    private void dayTitles() {
        edges.sentence(44, "DAY: how many TITLES are another one's then.");
        edges.fromLeast();
        edges.goes("day true = 0", "trouble = 0", "size 8 = 1", "size 7 = 0", "day false = 0", "size 8 = 2", "size 7 = 1");
        edges.fromFull();
        edges.goes("day true = 1", "umbrella 4 4 = 1", "size 8 = 16");
        edges.goes("day false = 0", "umbrella 4 4 = 5");
        edges.from(Counties.silks(5), "lend 0 1", "lend 1 2", "lend 2 3", "lend 3 4", "lend 4 0");
        edges.goes("day true = 5", "day true = 0");
        edges.goes("day false = 0", "day true = 5");
        edges.from(Counties.silks(5).replace("silk", "parasol"), "lend 0 1", "lend 1 2", "lend 2 3", "lend 3 4", "lend 4 0");
        edges.goes("day false = 5", "day true = 0");
        edges.from(Counties.silks(5).replace("silk", "stick"), "lend 0 1", "lend 1 2");
        edges.goes("day false = 0", "day true = 0");
        edges.sentence(44, "TITLES that become nobody's, too, and those that were.");
        edges.from(Counties.silks(5).replace("silk", "cotton").replace("lapse 9", "lapse 1"));
        edges.goes("day false = 5", "day false = 0", "day true = 5", "day true = 0", "leave 0 = 1", "day false = 5", "day true = 4");
    }

    private void dryDays() {
        edges.sentence(44, "NOW: no DRY day ahead of it; behind so many DRY days as lapse tells TITLES are nobody's.");
        for (int lapse : new int[] {1, 2, 3, 29, 30}) {
            String text = "county lapse " + lapse + " gust 0 rains 0;person p plain;umbrella u cotton lands 1 ribs 4 with p;umbrella v silk lands 1 ribs 4 with p";
            edges.from(text, times(lapse - 1, "day false"));
            edges.goes("umbrella 0 4 = 0", "day false = 1", "umbrella 0 4 = -2", "umbrella 1 4 = 0", "day false = 0", "umbrella 0 4 = -2");
            edges.goes("day true = 0", "umbrella 0 4 = 0", "size 7 = 0");
            edges.from(text, times(lapse, "day false"));
            edges.goes("umbrella 0 4 = -2", "day true = 1", "umbrella 0 4 = 0");
        }
        // Beyond 30 DRY days, which is as far as they are counted, TITLES still lapse.
        edges.from("county lapse 30 gust 0 rains 0;person p plain;umbrella r parasol lands 1 ribs 4 with p", times(33, "day false"));
        edges.goes("size 7 = 30", "umbrella 0 4 = -2", "day false = 0", "umbrella 0 4 = -2", "size 7 = 30", "day true = 0", "day false = 1", "umbrella 0 4 = 0");
    }

    private void carelessOnes() {
        edges.sentence(44, "(careless ones leave then, too).");
        String head = "county lapse 9 gust 0 rains 0;person c careless;person p plain;umbrella u silk lands 4 ribs 4 with c";
        for (String rain : new String[] {"true", "false"}) {
            edges.from(head);
            edges.goes("day " + rain + " = 0", "umbrella 0 3 = 0");
            edges.from(head + ";umbrella v silk lands 4 ribs 4 with c;umbrella w silk lands 3 ribs 4 with c");
            edges.goes("day " + rain + " = 0", "person 0 1 = 3", "day " + rain + " = 0", "person 0 1 = 2", "day " + rain + " = 0", "person 0 1 = 2",
                "undo = 1", "undo = 1", "person 0 1 = 3", "undo = 1", "person 0 1 = 7");
            edges.from(head + ";umbrella v silk lands 4 ribs 4 with p;umbrella w silk lands 3 ribs 4 with p");
            edges.goes("day " + rain + " = 0", "person 1 1 = 6");
        }
    }

    // ---- undoing, marks

    private void undoRefused() {
        edges.sentence(45, "false: 6.");
        edges.fromNew();
        edges.refuses("undo", 6);
        edges.fromLeast();
        edges.refuses("undo", 6);
        edges.from(Counties.FULL, "lend 0 1", "undo");
        edges.refuses("undo", 6);
        edges.from(Counties.FULL, "lend 0 0", "leave 9", "mark");
        edges.refuses("undo", 6);
        edges.from(Counties.FULL, "mark", "lend 0 1", "back 0");
        edges.refuses("undo", 6);
    }

    private void undoSixteen() {
        edges.sentence(45, "UNDO: the latest (16 are kept).");
        for (int acts : new int[] {15, 16, 17, 18, 33}) {
            edges.from(Counties.LEAST, times(acts, "day false"));
            UmbrellaHeir x = edges.fresh();
            int kept = Math.min(acts, 16);
            for (int i = 1; i <= kept; i++) {
                edges.due("undo", x.undo(), true);
                edges.due("acts that can be undone", x.size(8), kept - i);
                edges.due("DRY days", x.size(7), Math.min(30, acts - i));
            }
            edges.due("undo beyond " + kept, x.undo(), false);
            edges.due("trouble", x.trouble(), 6);
            edges.due("DRY days stay", x.size(7), acts - kept);
        }
        edges.fromFull();
        edges.goes("undo = 1", "umbrella 4 3 = 0", "undo = 1", "umbrella 4 3 = 5", "size 8 = 14", "size 9 = 3", "size 10 = 1000");
        // There is room again behind an undo, and the oldest stays then.
        edges.goes("undo = 1", "undo = 1", "lend 4 4 = 1", "size 8 = 15", "lend 4 0 = 1", "size 8 = 16", "lend 4 1 = 1", "size 8 = 16");
    }

    private void undoEach() {
        edges.sentence(45, "ACTS: LEND, LEAVE, EXCHANGE, a DAY with rain, or DRY; refused ones are none.");
        edges.from(Counties.BASE);
        edges.goes("lend 0 1 = 1", "size 8 = 1", "leave 1 = 1", "size 8 = 2", "exchange 1 2 = 1", "size 8 = 3", "day true = 1", "size 8 = 4",
            "day false = 0", "size 8 = 5", "lend 0 1 = 0", "leave 2 = 0", "exchange 3 3 = 0", "leave 9 = 0", "lend 9 9 = 0", "size 8 = 5",
            "undo = 1", "size 7 = 0", "umbrella 0 4 = 1", "undo = 1", "umbrella 0 4 = 0", "person 3 1 = 24", "undo = 1", "person 1 1 = 1",
            "umbrella 2 3 = 2", "undo = 1", "person 1 1 = 3", "undo = 1", "person 1 1 = 2", "undo = 0", "trouble = 6");
    }

    private void markRefused() {
        edges.sentence(46, "NONE: 1 (no COUNTY); 3.");
        edges.refusesWithoutCounty("mark");
        edges.fromFull();
        edges.refuses("mark", 3);
        edges.fromLeast("mark", "mark", "mark");
        edges.refuses("mark", 3);
        edges.fromLeast("mark", "mark", "mark", "back 0");
        edges.refuses("mark", 3);
        edges.fromLeast("mark", "mark", "mark", "day true", "undo");
        edges.refuses("mark", 3);
    }

    private void markNumbers() {
        edges.sentence(46, "A MARK: its number; up to 3.");
        edges.fromLeast();
        edges.goes("mark = 0", "trouble = 0", "size 9 = 1", "mark = 1", "size 9 = 2", "mark = 2", "trouble = 0", "size 9 = 3", "mark = -1", "trouble = 3",
            "size 9 = 3", "size 8 = 0");
        edges.fromLeast("mark", "day true", "back 0");
        edges.goes("mark = 1", "mark = 2", "mark = -1");
        edges.from(Counties.BASE, "lend 0 1");
        edges.goes("mark = 0", "size 8 = 1", "undo = 1", "size 9 = 1", "umbrella 0 3 = 0", "back 0 = 1", "umbrella 0 3 = 1");
    }

    private void backRefused() {
        edges.sentence(47, "false: 1.");
        edges.fromNew();
        edges.refusesNumbers("back %", 1, 0, 1, 2, 3);
        edges.fromLeast("day false");
        edges.refusesNumbers("back %", 1, 0, 1, 2, 3);
        edges.fromLeast("mark", "day false");
        edges.refusesNumbers("back %", 1, 1, 2, 3);
        edges.fromLeast("mark", "mark", "day false");
        edges.refusesNumbers("back %", 1, 2, 3);
        edges.fromFull();
        edges.refusesNumbers("back %", 1, 3, 4);
    }

    private void backAll() {
        edges.sentence(47, "All is as by a MARK (all MARKS stay): true; gone back to one, nothing can be undone.");
        edges.fromFull();
        edges.goes("back 0 = 1", "trouble = 0", "size 7 = 0", "size 8 = 0", "size 9 = 3", "umbrella 0 3 = 0", "umbrella 0 4 = 0", "umbrella 1 3 = 1",
            "umbrella 4 3 = 5", "undo = 0", "trouble = 6", "size 10 = 1000");
        edges.goes("back 1 = 1", "size 7 = 1", "size 8 = 0", "umbrella 0 3 = 1", "umbrella 0 4 = 0", "umbrella 1 3 = 1");
        edges.goes("back 2 = 1", "size 7 = 0", "size 8 = 0", "umbrella 0 4 = 1", "umbrella 1 3 = -2", "umbrella 4 3 = 5");
        edges.goes("back 0 = 1", "back 2 = 1", "umbrella 1 3 = -2", "back 1 = 1", "umbrella 1 3 = 1", "back 1 = 1", "size 9 = 3");
        // Acts behind it can be undone again, up to the MARK.
        edges.goes("back 1 = 1", "day false = 0", "size 7 = 2", "size 8 = 1", "undo = 1", "size 7 = 1", "undo = 0");
        edges.fromLeast("mark");
        edges.goes("back 0 = 1", "size 8 = 0", "size 9 = 1", "day false = 0", "back 0 = 1", "size 7 = 0");
    }

    // ---- what is told

    private void ledRefused() {
        edges.sentence(48, "NoSuchElementException if there is none such.");
        int[] wild = {-1, -2, Integer.MIN_VALUE, Integer.MAX_VALUE};
        edges.fromNew();
        edges.throwsNoSuch("led 0");
        edges.throwsNoSuch("led 1");
        for (int i : wild) {
            edges.throwsNoSuch("led " + i);
        }
        edges.fromLeast();
        edges.throwsNoSuch("led 1");
        edges.fromLeast("lend 0 0", "undo", "undo");
        edges.throwsNoSuch("led 1");
        edges.fromLeast("lend 0 0");
        edges.throwsNoSuch("led 0");
        edges.fromFull();
        edges.throwsNoSuch("led 1");
        for (int i : wild) {
            edges.throwsNoSuch("led " + i);
        }
        edges.from(Counties.FULL, "leave 0", "leave 1", "leave 2", "leave 3", "leave 4", "leave 4");
        edges.throwsNoSuch("led 5");
        edges.throwsNoSuch("led -1");
        edges.from(Counties.FULL, "county 0");
        edges.throwsNoSuch("led 0");
    }

    private void ledOnes() {
        edges.sentence(48, "The i-th umbrella, by numbers, that nobody HAS NOW.");
        edges.fromLeast();
        edges.leavesTrouble("led 0", 0);
        edges.fromFull();
        edges.leavesTrouble("led 0", 1);
        edges.from(Counties.FULL, "leave 4", "leave 3", "leave 2", "leave 1", "leave 0", "leave 0");
        for (int i = 0; i < 5; i++) {
            edges.leavesTrouble("led " + i, i);
        }
        edges.from(Counties.FULL, "leave 4", "leave 0");
        edges.leavesTrouble("led 0", 0);
        edges.leavesTrouble("led 1", 4);
    }

    private void sizeOthers() {
        edges.sentence(49, "NONE for others.");
        edges.fromNew();
        for (int what : new int[] {-1, -2, 11, 12, Integer.MIN_VALUE, Integer.MAX_VALUE}) {
            edges.fromNew();
            edges.leavesTrouble("size " + what, -1);
            edges.fromNew("undo");
            edges.leavesTrouble("size " + what, -1);
            edges.fromFull();
            edges.leavesTrouble("size " + what, -1);
        }
    }

    private void sizeNothing() {
        edges.sentence(49, "0 for what there isn't.");
        edges.fromNew("undo");
        for (int what = 0; what <= 10; what++) {
            edges.leavesTrouble("size " + what, 0);
        }
        edges.fromNew("county 0", "feed 0 0 0 0 0");
        for (int what = 0; what <= 10; what++) {
            edges.leavesTrouble("size " + what, what == 10 ? 20 : 0);
        }
        edges.fromLeast();
        int[] least = {1, 0, 0, 1, 1, 0, 0, 0, 0, 0, 0};
        for (int what = 0; what <= 10; what++) {
            edges.leavesTrouble("size " + what, least[what]);
        }
        edges.fromFull();
        int[] full = {30, 99, 99, 6, 5, 16, 6, 0, 16, 3, 1000};
        for (int what = 0; what <= 10; what++) {
            edges.leavesTrouble("size " + what, full[what]);
        }
        // A text that has people and umbrellas, but a FAULT, leaves none of them.
        edges.fromNew();
        UmbrellaHeir x = edges.fresh();
        Checks.tell(x, Counties.FULL + ";");
        for (int what = 0; what <= 10; what++) {
            edges.due("size " + what + " behind a FAULT", x.size(what), 0);
        }
    }

    private void sizeDry() {
        edges.sentence(49, "7 DRY days one behind the other up to NOW (30 at most).");
        for (int days : new int[] {0, 1, 29, 30, 31, 40}) {
            edges.from(Counties.LEAST + ";rain day 3", times(days, "day false"));
            edges.leavesTrouble("size 7", Math.min(days, 30));
            edges.goes("day true = 0", "size 7 = 0", "day false = 0", "size 7 = 1");
        }
        edges.from(Counties.LEAST, times(31, "day false"));
        edges.goes("undo = 1", "size 7 = 30", "undo = 1", "size 7 = 29", "mark = 0", "day true = 0", "size 7 = 0", "back 0 = 1", "size 7 = 29");
    }

    private void sizeActs() {
        edges.sentence(49, "8 ACTS that can be undone.");
        for (int acts : new int[] {0, 1, 15, 16, 17, 32}) {
            edges.from(Counties.LEAST, times(acts, "day true"));
            edges.leavesTrouble("size 8", Math.min(acts, 16));
        }
    }

    private void sizeMarks() {
        edges.sentence(49, "9 MARKS, 10 bytes of THE TAPE.");
        for (int marks = 0; marks <= 4; marks++) {
            edges.from(Counties.LEAST, times(marks, "mark"));
            edges.leavesTrouble("size 9", Math.min(marks, 3));
        }
        for (int feeds : new int[] {0, 1, 49, 50, 51}) {
            edges.from(Counties.LEAST, times(feeds, "feed 0 0 0 0 0"));
            edges.leavesTrouble("size 10", Math.min(20 * feeds, 1000));
        }
    }

    private void troubleNumbers() {
        edges.sentence(50, "TROUBLE: 0 it wasn't; 1 there is none such; 2 a number; 3 no room; 4 a FAULT; 5 not so; 6 there is none.");
        edges.fromNew();
        edges.leavesTrouble("trouble", 0);
        edges.fromLeast();
        edges.leavesTrouble("trouble", 0);
        String[][] refusals = {{"alike 1"}, {"lapsed 41"}, {"mark", "mark", "mark", "mark"}, {"county 0"}, {"leave 0"}, {"undo"}};
        for (int number = 1; number <= 6; number++) {
            edges.fromLeast(refusals[number - 1]);
            edges.leavesTrouble("trouble", number);
            edges.goes("trouble = " + number, "trouble = " + number, "right = 0", "trouble = 0");
        }
    }

    private void troubleWasnt() {
        edges.sentence(50, "of the latest call that may be refused: 0 it wasn't.");
        edges.from(Counties.BASE, "mark", "lend 0 1", "undo", "undo");
        edges.goes("trouble = 6");
        for (String call : new String[] {"umbrella 0 0", "person 0 0", "alike 0", "right", "richest", "hasIt 0 0", "titleOf 0 0", "landsOf 0 0",
            "lapsed 0", "passed 0", "judge", "ways", "wayAt 0", "longest 0", "worstDay", "owing 0 1", "change 0 true", "change 0 false",
            "lapsesIn 0", "guest 1", "guest 15", "putRight", "exchanges", "party 1", "partyOf 1 0", "partyOf 1 1", "room 1", "whole 0 0 true",
            "whole 0 6 false", "allWhole 0 0 true", "allWhole 0 1 false", "divided 0 1 0", "heirs 0 0 0 true", "rests 0", "rest 0", "rest 5", "most 0",
            "mostLands 0", "century 0 0 0", "untitled 0 0", "lend 0 1", "leave 0", "exchange 0 1", "day true", "day false", "mark", "back 0"}) {
            edges.goes(call, "trouble = 0");
        }
        edges.from(Counties.silks(2), "exchange 0 1", "undo", "exchange 0 1", "alike 9");
        edges.goes("exchangeAt 0 = 1", "trouble = 0");
        edges.goes("undo = 1", "trouble = 0");
        UmbrellaHeir x = edges.goes("trouble = 1");
        edges.due("county", Checks.tell(x, Counties.LEAST), 1);
        edges.due("trouble behind county", x.trouble(), 0);
    }

    private void troubleStays() {
        edges.sentence(50, "those of which a number is told here: not feed, fault, where, led, size, trouble.");
        String[][] refusals = {{"alike 1"}, {"lapsed 41"}, {"mark", "mark", "mark", "mark"}, {"county 0"}, {"leave 0"}, {"undo"}};
        for (int number = 1; number <= 6; number++) {
            edges.fromLeast(refusals[number - 1]);
            edges.goes("feed 0 0 0 0 0 = 20", "trouble = " + number, "fault", "trouble = " + number, "where", "trouble = " + number,
                "led 0 = 0", "trouble = " + number, "led 1", "trouble = " + number, "size 4 = 1", "trouble = " + number, "size 11 = -1",
                "trouble = " + number);
        }
    }
}
