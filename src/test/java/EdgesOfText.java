/** Boundary cases of promises 1 to 5 and of Term I: a new object, the tape, the text of a county and its faults. */
final class EdgesOfText {
    private static final String[] HEADS = {"county", "person", "umbrella", "lent", "left", "changed", "rain", "claims"};
    private static final String[] LOGGED = {"lent u p", "left u", "changed u v", "rain"};
    private static final String HEAD = "county lapse 2 gust 0 rains 0";
    private static final String SMALL = Counties.SMALL;
    /** With a second umbrella, so that two can be changed. */
    private static final String PAIR = SMALL + ";umbrella v silk lands 1 ribs 4";

    private final Edges edges;

    EdgesOfText(Edges edges) {
        this.edges = edges;
    }

    void all() {
        newObject();
        newObjectTold();
        twentyBytes();
        highestFirst();
        fullTape();
        tapeAnew();
        numberOfBytes();
        firstBytes();
        afresh();
        countyStays();
        nothingOfEarlierOnes();
        faultOfLatest();
        placeOfFault();
        longestText();
        blanks();
        words();
        wholes();
        semicolons();
        countyLine();
        aheadOfAll();
        people();
        umbrellas();
        withPerson();
        logDays();
        logOrder();
        logRoom();
        changedUnlike();
        claims();
        names();
        toldAheadOfUse();
        toldAgain();
        secondCounty();
        formAtEnd();
        formInside();
        formLeftOut();
        firstFromLeft();
        leastNumber();
        lacksAtEnd();
    }

    // ---- promises 1 to 5

    private void newObject() {
        edges.sentence(1, "No COUNTY.");
        edges.fromNew();
        edges.refuseAll(1, "umbrella 0 0", "person 0 0", "alike 0", "right", "richest", "hasIt 0 0", "titleOf 0 0", "landsOf 0 0",
            "lapsed 0", "passed 0", "judge", "ways", "wayAt 0", "longest 0", "worstDay", "owing 0 1", "change 0 true", "change 0 false",
            "lapsesIn 0", "guest 1", "putRight", "exchanges", "exchangeAt 0", "party 1", "partyOf 1 0", "room 1", "whole 0 0 true",
            "allWhole 0 0 true", "divided 0 1 0", "heirs 0 0 0 true", "rests 0", "rest 0", "most 0", "mostLands 0", "century 0 0 0",
            "untitled 0 0", "lend 0 0", "leave 0", "exchange 0 1", "day true", "day false", "mark", "back 0");
        edges.refuses("undo", 6);
        edges.refuses("county 1", 2);
        edges.throwsNoSuch("led 0");
        for (int what = 0; what <= 10; what++) {
            edges.leavesTrouble("size " + what, 0);
        }
        edges.leavesTrouble("fault", 0);
        edges.leavesTrouble("where", -1);
        edges.leavesTrouble("trouble", 0);
    }

    private void newObjectTold() {
        edges.sentence(1, "No COUNTY: one object knows nothing of another.");
        edges.fromFull();
        edges.fresh();
        UmbrellaHeir y = new UmbrellaHeir();
        for (int what = 0; what <= 10; what++) {
            edges.due("size " + what, y.size(what), 0);
        }
    }

    private void twentyBytes() {
        edges.sentence(2, "Twenty bytes come behind THE TAPE: how many it has.");
        edges.fromNew();
        edges.goes("feed 0 0 0 0 0 = 20", "size 10 = 20", "feed -1 -1 -1 -1 -1 = 40", "size 10 = 40",
            "feed 2147483647 -2147483648 0 1 2 = 60", "size 10 = 60", "trouble = 0");
        edges.fromLeast("undo");
        edges.goes("feed 0 0 0 0 0 = 20", "trouble = 6", "size 4 = 1");
    }

    private void highestFirst() {
        edges.sentence(2, "of each number the highest first.");
        edges.fromNew();
        for (int at = 0; at < 20; at++) {
            int[] five = {0x20202020, 0x20202020, 0x20202020, 0x20202020, 0x20202020};
            // The only byte that is no blank, in each of the twenty places, once as a sign above 127.
            for (int sign : new int[] {'#', 128, 255, 0}) {
                int shift = 24 - 8 * (at % 4);
                five[at / 4] = 0x20202020 & ~(255 << shift) | sign << shift;
                UmbrellaHeir x = edges.fresh();
                x.feed(five[0], five[1], five[2], five[3], five[4]);
                x.county(20);
                edges.due("fault of byte " + sign, x.fault(), 1);
                edges.due("place of byte " + sign, x.where(), at);
            }
        }
    }

    private void fullTape() {
        edges.sentence(2, "NONE, and none comes, if there would be more than 1,000.");
        String[] steps = new String[49];
        java.util.Arrays.fill(steps, "feed 538976288 538976288 538976288 538976288 538976288");
        edges.fromNew(steps);
        edges.goes("size 10 = 980", "feed 0 0 0 0 0 = 1000", "size 10 = 1000", "feed 0 0 0 0 0 = -1", "size 10 = 1000", "trouble = 0");
        edges.fromFull();
        edges.leavesTrouble("feed 0 0 0 0 0", -1);
        edges.leavesTrouble("feed 1668248942 1954095212 1634759525 540156007 1970500640", -1);
        edges.leavesTrouble("feed -1 -1 -1 -1 -1", -1);
        edges.goes("undo = 1", "back 3 = 0", "trouble = 1", "feed 0 0 0 0 0 = -1", "trouble = 1");
    }

    private void tapeAnew() {
        edges.sentence(2, "more than 1,000: behind county() there is room again.");
        edges.fromFull();
        edges.goes("county 1000 = -1", "size 10 = 0", "feed 0 0 0 0 0 = 20");
        edges.goes("county 0 = -1", "size 10 = 0", "feed 0 0 0 0 0 = 20");
        edges.goes("county 1001 = -1", "size 10 = 1000", "feed 0 0 0 0 0 = -1");
    }

    private void numberOfBytes() {
        edges.sentence(3, "NONE: 2 (THE TAPE stays).");
        edges.fromNew();
        edges.refusesNumbers("county %", 2, 1, 20, 1000);
        edges.fromNew("feed 0 0 0 0 0");
        edges.refusesNumbers("county %", 2, 21, 40, 1000);
        edges.fromLeast("feed 0 0 0 0 0", "mark");
        edges.refusesNumbers("county %", 2, 21, 1001);
        edges.fromFull();
        edges.refusesNumbers("county %", 2, 1001, 1020);
        edges.fromNew("county 0");
        edges.refusesNumbers("county %", 2, 1);
        edges.goes("fault = 1", "county 1 = -1", "fault = 1", "where = -1", "trouble = 2");
    }

    private void firstBytes() {
        edges.sentence(3, "The first n bytes of THE TAPE (it is empty then).");
        edges.fromNew();
        UmbrellaHeir x = edges.fresh();
        String text = SMALL + ";person q plain";
        for (int n = SMALL.length(); n <= text.length(); n++) {
            x = edges.fresh();
            Checks.feed(x, text + "   ;;");
            boolean whole = n == SMALL.length() || n == text.length();
            edges.due("county of the first " + n, x.county(n), whole ? 1 : -1);
            edges.due("people of the first " + n, x.size(3), !whole ? 0 : n == text.length() ? 2 : 1);
            edges.due("place of the first " + n, x.where(), whole ? -1 : Math.max(0, placeIn(text, n)));
            edges.due("THE TAPE behind the first " + n, x.size(10), 0);
        }
        x = edges.fresh();
        Checks.feed(x, SMALL);
        edges.due("all of THE TAPE", x.county(x.size(10)), 1);
        edges.due("nothing is left of it", x.county(1), -1);
        edges.due("and the number is refused", x.trouble(), 2);
        edges.faulty("^", 1);
    }

    /** Where a text that is cut off inside its last line, "person q plain", has its fault. */
    private static int placeIn(String text, int n) {
        int line = SMALL.length() + 1;
        int head = Math.min(line + "person".length(), n);
        if (n > line && head < line + "person".length()) {
            return line;
        }
        int sort = line + "person q ".length();
        return n > sort ? sort : n;
    }

    private void afresh() {
        edges.sentence(3, "are the COUNTY from now on (nothing to undo, no MARKS).");
        edges.fromFull();
        edges.goes("size 8 = 16", "size 9 = 3", "county 1000 = -1", "size 8 = 16", "size 9 = 3", "size 3 = 6", "size 5 = 16", "size 6 = 6");
        UmbrellaHeir x = edges.goes("county 0 = -1");
        Checks.tell(x, Counties.LEAST);
        int[] due = {1, 0, 0, 1, 1, 0, 0, 0, 0, 0, 0};
        for (int what = 0; what <= 10; what++) {
            edges.due("size " + what, x.size(what), due[what]);
        }
        edges.due("nothing to undo", x.undo(), false);
        edges.due("trouble of undo", x.trouble(), 6);
        edges.due("no MARK", x.back(0), false);
        edges.due("trouble of back", x.trouble(), 1);
        edges.due("MARKS begin anew", x.mark(), 0);
    }

    private void countyStays() {
        edges.sentence(3, "NONE: 4 (the COUNTY stays).");
        String[] acts = {"mark", "lend 0 1", "day false", "mark", "leave 1", "day true", "exchange 0 2", "mark", "undo", "ways"};
        for (String[] steps : new String[][] {{}, acts}) {
            for (String text : new String[] {Counties.BASE, Counties.FULL}) {
                edges.from(text, steps);
                edges.faulty("^", 1);
                // All that the text tells is read already where the fault is met.
                edges.faulty(PAIR + ";rain day 5;claims p u day 9;^", 1);
                edges.faulty(PAIR + ";rain day 5;claims p ^x day 9", 2);
                edges.faulty(PAIR + ";rain day 5;^county", 3);
                edges.faulty(PAIR + ";rain day 5;rain day ^4", 4);
                edges.faulty(PAIR + ";rain day 5".repeat(16) + ";^rain day 5", 5);
                edges.faulty(HEAD + ";person p plain;person q child^", 6);
            }
        }
    }

    private void nothingOfEarlierOnes() {
        edges.sentence(3, "are the COUNTY from now on: nothing of those told earlier, with a FAULT or without.");
        String five = Counties.silks(5) + ";rain day 3;claims a w day 3";
        edges.from(five, "ways", "tell " + Counties.FULL, "ways", "wayAt 0", "exchange 0 1", "mark", "tell " + five, "ways", "exchanges");
        for (int many = 1; many <= 5; many++) {
            edges.good(Counties.silks(many), many);
        }
        edges.good(Counties.LEAST, 1);
        edges.good(SMALL + ";rain day 0", 1);
        edges.fromNew("tell " + Counties.FULL + ";", "tell " + Counties.FULL + ";person");
        edges.good(Counties.LEAST, 1);
        edges.good(SMALL + ";rain day 0;claims p u day 0", 1);
        edges.faulty(HEAD + "^", 6);
        edges.faulty(HEAD + ";person p plain^", 6);
        edges.faulty("^person p plain", 6);
    }

    private void faultOfLatest() {
        edges.sentence(4, "The FAULT of the latest county() not refused by 2; 0 without one.");
        edges.fromNew();
        edges.leavesTrouble("fault", 0);
        edges.goes("county 1 = -1", "fault = 0", "county 0 = -1", "fault = 1", "county 1 = -1", "fault = 1", "county -1 = -1", "fault = 1");
        UmbrellaHeir x = edges.goes("county 0 = -1");
        Checks.tell(x, Counties.LEAST);
        edges.due("0 without one", x.fault(), 0);
        x.county(1);
        edges.due("0 behind 2", x.fault(), 0);
        for (int fault = 1; fault <= 6; fault++) {
            Checks.tell(x, new String[] {"", SMALL + ";left p", SMALL + ";county", "county lapse 0", SMALL + ";rain day 1".repeat(17), "rain"}[fault - 1]);
            edges.due("fault " + fault, x.fault(), fault);
            x.day(true);
            x.county(1);
            edges.due("fault " + fault + " stays", x.fault(), fault);
        }
    }

    private void placeOfFault() {
        edges.sentence(5, "Its place, if the latest call that may be refused was by 4; NONE else.");
        edges.fromNew();
        edges.leavesTrouble("where", -1);
        edges.goes("county 0 = -1", "where = 0", "where = 0", "feed 0 0 0 0 0 = 20", "where = 0", "fault = 1", "size 99 = -1", "where = 0");
        edges.goes("county 0 = -1", "led 0", "where = 0", "trouble = 4");
        edges.goes("county 0 = -1", "county 1 = -1", "where = -1");
        edges.goes("county 0 = -1", "undo = 0", "where = -1");
        edges.goes("county 0 = -1", "right = -1", "where = -1");
        edges.goes("county 1 = -1", "where = -1");
        edges.fromLeast();
        edges.goes("county 0 = -1", "where = 0", "right = 0", "where = -1", "fault = 1");
        for (String call : new String[] {"umbrella 0 0", "alike 0", "whole 0 0 true", "allWhole 0 0 false", "day true", "lend 0 0", "mark",
            "heirs 1 1 1 true", "party 1", "undo", "back 0", "change 0 true", "wayAt 0"}) {
            edges.goes("county 0 = -1", call, "where = -1");
        }
    }

    // ---- Term I, by promise 3

    private void longestText() {
        edges.sentence(3, "THE TAPE has 1,000 bytes.");
        edges.fromNew();
        int gap = 1000 - SMALL.length();
        edges.good(" ".repeat(gap) + SMALL, 1);
        edges.good(SMALL + " ".repeat(gap), 1);
        edges.good(SMALL + " ".repeat(gap - 11) + ";rain day 1", 1);
        edges.faulty(SMALL + " ".repeat(gap - 1) + "^x", 1);
        edges.faulty(SMALL + " ".repeat(gap - 1) + ";^", 1);
        edges.faulty(SMALL + " ".repeat(gap - 1) + "^" + (char) 0, 1);
        edges.faulty(" ".repeat(1000) + "^", 1);
        // A word of 8 letters, and one of 9, that end with THE TAPE.
        edges.faulty(" ".repeat(992) + "^umbrella", 6);
        edges.faulty(" ".repeat(991) + "^umbrellas", 1);
        edges.faulty(";".repeat(1000).replaceFirst(";", "^;"), 1);
        edges.faulty("^" + "a".repeat(1000), 1);
        edges.faulty("^" + "9".repeat(1000), 1);
    }

    private void blanks() {
        edges.sentence(3, "blanks, 32, part TOKENS and mean nothing else.");
        edges.fromNew();
        edges.good("county  lapse   2    gust 0 rains 0 ; person p plain ; umbrella u silk lands 1 ribs 4 with p ", 1);
        edges.good("county lapse2gust0rains0;person p plain;umbrella u silk lands1ribs4with p;rain day1;claims p u day40", 1);
        for (int sign = 0; sign < 256; sign++) {
            String text = "county" + (char) sign + SMALL.substring(7);
            if (sign == 32) {
                edges.good(text, 1);
            } else if (sign >= 'a' && sign <= 'z') {
                edges.faulty("^" + text, 1);
            } else {
                edges.faulty("county^" + text.substring(6), 1);
            }
        }
        edges.faulty("^coun ty", 1);
        edges.faulty("county lapse 3 ^0 gust 0", 1);
    }

    private void words() {
        edges.sentence(3, "WORDS of 1 to 8 small letters that stand together.");
        edges.fromNew();
        for (String name : new String[] {"a", "z", "az", "aaaaaaaa", "zzzzzzzz", "abcdefgh", "qrstuvwx"}) {
            edges.good(SMALL + ";person " + name + " plain;umbrella b silk lands 0 ribs 4 with " + name, 2);
        }
        edges.faulty(SMALL + ";person ^aaaaaaaaa plain", 1);
        edges.faulty(SMALL + ";person ^aaaaaaaaaaaaaaaa plain", 1);
        edges.faulty(SMALL + ";person ^abcdefghi", 1);
        edges.faulty("^countylap", 1);
        for (char sign : new char[] {'`', '{', 'A', 'Z', '@', '[', (char) 225}) {
            edges.faulty(SMALL + ";person ^" + sign, 1);
            edges.faulty(SMALL + ";person q^" + sign + " plain", 1);
        }
        // The ninth letter makes another word: names of eight letters that begin alike stay apart.
        edges.good(SMALL + ";person aaaaaaaa plain;person aaaaaaab child;person aaaaaaa plain", 1);
        edges.faulty(SMALL + ";person aaaaaaaa plain;person ^aaaaaaaa child", 3);
    }

    private void wholes() {
        edges.sentence(3, "WHOLES of 1 to 2 digits that do.");
        edges.fromNew();
        for (int lapse = 1; lapse <= 30; lapse++) {
            UmbrellaHeir x = Checks.told("county lapse " + lapse + SMALL.substring(14));
            edges.due("lapse", x.size(0), lapse);
            UmbrellaHeir y = Checks.told("county lapse " + lapse / 10 + lapse % 10 + SMALL.substring(14));
            edges.due("lapse by two digits", y.size(0), lapse);
        }
        edges.faulty("county lapse ^001", 1);
        edges.faulty("county lapse ^010 gust", 1);
        edges.faulty("county lapse ^000", 1);
        edges.faulty("county lapse ^2147483648", 1);
        edges.faulty("county lapse ^/1", 1);
        edges.faulty("county lapse ^:1", 1);
        edges.faulty("county lapse 1^/", 1);
        edges.faulty("county lapse 1^:", 1);
        edges.faulty("county lapse ^+1", 1);
        edges.faulty("county lapse ^-1", 1);
        edges.faulty("county lapse 1^.0", 1);
    }

    private void semicolons() {
        edges.sentence(3, "single ones of ;: LINE {; LINE}.");
        edges.fromNew();
        edges.faulty("^;", 1);
        edges.faulty("^;" + SMALL, 1);
        edges.faulty(SMALL + ";^", 1);
        edges.faulty(SMALL + ";^;", 1);
        edges.faulty(SMALL + "; ^; rain day 1", 1);
        edges.faulty(SMALL + "^:rain day 1", 1);
        edges.faulty(SMALL + "^<", 1);
        edges.faulty(SMALL + " ^rain day 1", 1);
        edges.faulty(HEAD + " ^person p plain", 1);
    }

    private void countyLine() {
        edges.sentence(3, "county lapse WHOLE gust WHOLE rains WHOLE (1 .. 30 days; 0 .. 99 in a hundred; 0 .. 99 in a hundred).");
        edges.fromFull();
        edges.goes("size 0 = 30", "size 1 = 99", "size 2 = 99");
        edges.fromLeast();
        edges.goes("size 0 = 1", "size 1 = 0", "size 2 = 0");
        edges.from(SMALL.replace("lapse 2 gust 0 rains 0", "lapse 4 gust 5 rains 6"));
        edges.goes("size 0 = 4", "size 1 = 5", "size 2 = 6");
        edges.fromLeast("mark", "day true");
        edges.faulty("county lapse ^0", 4);
        edges.faulty("county lapse ^00 gust 0 rains 0", 4);
        edges.faulty("county lapse ^31", 4);
        edges.faulty("county lapse ^99", 4);
        edges.faulty("county lapse ^100", 1);
        edges.faulty("county lapse 1 gust ^100", 1);
        edges.faulty("county lapse 1 gust 99 rains ^100", 1);
        edges.good("county lapse 1 gust 1 rains 98" + SMALL.substring(29), 1);
        edges.good("county lapse 29 gust 98 rains 1" + SMALL.substring(29), 1);
    }

    private void aheadOfAll() {
        edges.sentence(3, "ahead of all others; LACKS: any LINE ahead of the county; at its WORD.");
        edges.fromFull();
        edges.goes("county 0 = -1");
        edges.from(Counties.BASE, "lend 0 1", "mark", "day false");
        for (String head : HEADS) {
            if (!head.equals("county")) {
                edges.faulty("^" + head, 6);
                edges.faulty(" ^" + head + ";" + SMALL, 6);
            }
        }
        edges.faulty("^person p plain;" + SMALL, 6);
        edges.faulty("^rain day 1;" + SMALL, 6);
        edges.good(SMALL, 1);
    }

    private void people() {
        edges.sentence(3, "person NAME SORT (SORT: plain, child, or careless; up to 6); MANY, at its first WORD.");
        edges.fromNew();
        StringBuilder text = new StringBuilder(SMALL);
        for (int more = 2; more <= 6; more++) {
            text.append(";person n").append((char) ('a' + more)).append(more % 2 == 0 ? " child" : " careless");
            UmbrellaHeir x = Checks.told(text.toString());
            edges.due("people", x.size(3), more);
            edges.due("the last one's SORT", x.person(more - 1, 0), more % 2 == 0 ? 1 : 2);
        }
        edges.good(text.toString(), 1);
        edges.faulty(text + ";^person nz plain", 5);
        edges.faulty(text + ";^person", 5);
        edges.faulty(text + ";^person p plain", 5);
        edges.faulty(text + ";^person person", 5);
        edges.faulty(text + ";rain day 1;^person", 5);
        edges.good(text + ";umbrella v silk lands 1 ribs 4", 2);
        edges.faulty(SMALL + ";person q ^plains", 1);
        edges.faulty(SMALL + ";person q ^plai", 1);
        edges.faulty(SMALL + ";person q ^silk", 1);
        edges.faulty(SMALL + ";person q ^0", 1);
    }

    private void umbrellas() {
        edges.sentence(3, "umbrella NAME KIND lands WHOLE ribs WHOLE (0 .. 99; 4 .. 12; up to 5); MANY, at its first WORD.");
        edges.fromNew();
        String[] kinds = {"silk", "cotton", "stick", "parasol"};
        for (int kind = 0; kind < 4; kind++) {
            for (int ribs = 4; ribs <= 12; ribs++) {
                int lands = new int[] {0, 1, 98, 99}[kind];
                UmbrellaHeir x = Checks.told(SMALL + ";umbrella v " + kinds[kind] + " lands " + lands + " ribs " + ribs);
                edges.due("KIND", x.umbrella(1, 0), kind);
                edges.due("lands", x.umbrella(1, 1), lands);
                edges.due("ribs", x.umbrella(1, 2), ribs);
            }
        }
        edges.faulty(SMALL + ";umbrella v silk lands ^100", 1);
        for (String ribs : new String[] {"0", "3", "03", "13", "99"}) {
            edges.faulty(SMALL + ";umbrella v silk lands 1 ribs ^" + ribs, 4);
        }
        edges.faulty(SMALL + ";umbrella v ^silks", 1);
        StringBuilder text = new StringBuilder(SMALL);
        for (int more = 2; more <= 5; more++) {
            text.append(";umbrella n").append((char) ('a' + more)).append(" silk lands 1 ribs 4");
            edges.good(text.toString(), more);
        }
        edges.faulty(text + ";^umbrella nz silk lands 1 ribs 4", 5);
        edges.faulty(text + ";^umbrella", 5);
        edges.faulty(text + ";^umbrella u", 5);
        edges.good(text + ";person q plain", 5);
    }

    private void withPerson() {
        edges.sentence(3, "or umbrella NAME KIND lands WHOLE ribs WHOLE with PERSON.");
        edges.fromNew();
        edges.good("county lapse 1 gust 0 rains 0;umbrella u silk lands 1 ribs 4;person p plain", 1);
        edges.faulty("county lapse 1 gust 0 rains 0;umbrella u silk lands 1 ribs 4 with ^p;person p plain", 2);
        edges.faulty(SMALL + ";umbrella v silk lands 1 ribs 4 with ^v", 2);
        edges.faulty(SMALL + ";umbrella v silk lands 1 ribs 4 with ^u", 2);
        edges.faulty(SMALL + ";umbrella v silk lands 1 ribs 4 with^", 1);
        edges.faulty(SMALL + ";umbrella v silk lands 1 ribs 4 with ^4", 1);
        edges.faulty(SMALL + ";umbrella v silk lands 1 ribs 4 with p ^p", 1);
        edges.faulty(SMALL + ";umbrella v silk lands 1 ribs 4 ^without", 1);
    }

    private void logDays() {
        edges.sentence(3, "day WHOLE (0 .. 40).");
        edges.fromNew();
        for (String line : LOGGED) {
            edges.good(PAIR + ";" + line + " day 0", 2);
            edges.good(PAIR + ";" + line + " day 00", 2);
            edges.good(PAIR + ";" + line + " day 40", 2);
            edges.faulty(PAIR + ";" + line + " day ^41", 4);
            edges.faulty(PAIR + ";" + line + " day ^99", 4);
            edges.faulty(PAIR + ";" + line + " day ^100", 1);
            edges.faulty(PAIR + ";" + line + " day^", 1);
            edges.faulty(PAIR + ";" + line + " ^5", 1);
        }
    }

    private void logOrder() {
        edges.sentence(3, "of each no less than of those told ahead.");
        edges.fromNew();
        for (String ahead : LOGGED) {
            for (String behind : LOGGED) {
                edges.good(PAIR + ";" + ahead + " day 7;" + behind + " day 7", 2);
                edges.good(PAIR + ";" + ahead + " day 7;" + behind + " day 8", 2);
                edges.faulty(PAIR + ";" + ahead + " day 7;" + behind + " day ^6", 4);
                edges.faulty(PAIR + ";" + ahead + " day 7;claims p u day 0;" + behind + " day ^6", 4);
            }
        }
        edges.faulty(PAIR + ";rain day 1;rain day ^0", 4);
        edges.faulty(PAIR + ";rain day 40;rain day ^39", 4);
        edges.good(PAIR + ";rain day 40;rain day 40", 2);
        edges.good(PAIR + ";claims p u day 40;rain day 0", 2);
    }

    private void logRoom() {
        edges.sentence(3, "up to 16 of all: THE LOG; MANY, at its first WORD.");
        edges.fromNew();
        StringBuilder text = new StringBuilder(PAIR);
        for (int i = 0; i < 16; i++) {
            text.append(";").append(LOGGED[i % 4]).append(" day ").append(i);
            UmbrellaHeir x = Checks.told(text.toString());
            edges.due("THE LOG", x.size(5), i + 1);
        }
        for (String line : LOGGED) {
            edges.faulty(text + ";^" + line + " day 15", 5);
            edges.faulty(text + ";^" + line, 5);
            edges.faulty(text + ";^" + line + " day 0", 5);
        }
        edges.good(text + ";claims p u day 0;person q plain", 2);
    }

    private void changedUnlike() {
        edges.sentence(3, "changed UMBRELLA UMBRELLA (unlike); a second UMBRELLA that is the first; at it.");
        edges.fromNew();
        edges.good(PAIR + ";changed u v day 1;changed v u day 1", 2);
        edges.faulty(PAIR + ";changed u ^u day 1", 3);
        edges.faulty(PAIR + ";changed v ^v", 3);
        edges.faulty(PAIR + ";changed ^p p", 2);
        edges.faulty(PAIR + ";changed ^w w", 2);
        edges.faulty(PAIR + ";changed u ^w", 2);
        edges.faulty(PAIR + ";changed u^", 1);
        edges.faulty(PAIR + ";changed u ^;", 1);
    }

    private void claims() {
        edges.sentence(3, "claims PERSON UMBRELLA day WHOLE (0 .. 40; up to 6); MANY, at its first WORD.");
        edges.fromNew();
        edges.faulty(SMALL + ";claims p u day ^41", 4);
        edges.faulty(SMALL + ";claims p u day ^100", 1);
        edges.good(SMALL + ";claims p u day 40;claims p u day 0;claims p u day 39", 1);
        StringBuilder text = new StringBuilder(SMALL);
        for (int i = 0; i < 6; i++) {
            text.append(";claims p u day ").append(40 - 8 * i);
            UmbrellaHeir x = Checks.told(text.toString());
            edges.due("claims", x.size(6), i + 1);
        }
        edges.good(text.toString(), 1);
        edges.faulty(text + ";^claims p u day 0", 5);
        edges.faulty(text + ";^claims", 5);
        edges.good(text + ";rain day 0;person q plain;umbrella w silk lands 0 ribs 4", 2);
        edges.faulty(SMALL + ";claims ^u p day 1", 2);
        edges.faulty(SMALL + ";claims p ^p day 1", 2);
        edges.faulty(SMALL + ";claims ^q u day 1", 2);
    }

    private void names() {
        edges.sentence(3, "NAMES are WORDS but county, person, umbrella, lent, left, changed, rain, claims.");
        edges.fromNew();
        for (String head : HEADS) {
            edges.faulty(SMALL + ";person ^" + head + " plain", 1);
            edges.faulty(SMALL + ";umbrella ^" + head + " silk", 1);
            edges.faulty(SMALL + ";umbrella v silk lands 1 ribs 4 with ^" + head, 1);
            edges.faulty(SMALL + ";lent ^" + head, 1);
            edges.faulty(SMALL + ";lent u ^" + head, 1);
            edges.faulty(SMALL + ";left ^" + head, 1);
            edges.faulty(SMALL + ";changed ^" + head, 1);
            edges.faulty(SMALL + ";changed u ^" + head, 1);
            edges.faulty(SMALL + ";claims ^" + head, 1);
            edges.faulty(SMALL + ";claims p ^" + head, 1);
        }
        for (String name : new String[] {"lapse", "gust", "rains", "plain", "child", "careless", "lands", "ribs", "with", "silk", "cotton",
            "stick", "parasol", "day", "count", "counties", "persons", "umbrell", "len", "lents", "lefts", "change", "claim", "rai", "none"}) {
            edges.good(HEAD + ";person " + name + " plain;umbrella u silk lands 1 ribs 4 with " + name
                + ";lent u " + name + " day 1;claims " + name + " u day 1", 1);
            edges.good(HEAD + ";person p plain;umbrella " + name + " silk lands 1 ribs 4 with p;umbrella u silk lands 1 ribs 4"
                + ";lent " + name + " p day 1;left " + name + " day 1;changed " + name + " u day 1;claims p " + name + " day 1", 2);
        }
    }

    private void toldAheadOfUse() {
        edges.sentence(3, "each told ahead of its use; 2 a NAME that isn't told, or is of another sort than must stand there; at it.");
        edges.fromNew();
        edges.faulty(SMALL + ";left ^v day 1;umbrella v silk lands 1 ribs 4", 2);
        edges.faulty(SMALL + ";lent u ^q day 1;person q plain", 2);
        edges.faulty(SMALL + ";claims ^q u day 1;person q plain", 2);
        edges.faulty(SMALL + ";claims p ^v day 1;umbrella v silk lands 1 ribs 4", 2);
        edges.faulty(SMALL + ";changed u ^v day 1;umbrella v silk lands 1 ribs 4", 2);
        edges.faulty(SMALL + ";lent ^p p day 1", 2);
        edges.faulty(SMALL + ";lent u ^u day 1", 2);
        edges.faulty(SMALL + ";left ^p day 1", 2);
        edges.faulty(SMALL + ";changed u ^p day 1", 2);
        edges.faulty(SMALL + ";left ^day 1", 2);
        // What an object was told earlier is not told in this county.
        edges.from(SMALL + ";person q plain;umbrella v silk lands 1 ribs 4");
        edges.faulty(SMALL + ";lent u ^q", 2);
        edges.faulty(SMALL + ";left ^v", 2);
        edges.good(SMALL + ";umbrella q silk lands 1 ribs 4;person v plain", 2);
    }

    private void toldAgain() {
        edges.sentence(3, "each told once; 3 a NAME told again; at it.");
        edges.fromNew();
        edges.faulty(SMALL + ";person ^p plain", 3);
        edges.faulty(SMALL + ";person ^p", 3);
        edges.faulty(SMALL + ";person ^u plain", 3);
        edges.faulty(SMALL + ";umbrella ^u silk", 3);
        edges.faulty(SMALL + ";umbrella ^p silk", 3);
        edges.faulty(SMALL + ";person q plain;umbrella ^q", 3);
        edges.faulty(SMALL + ";umbrella v silk lands 1 ribs 4;person ^v", 3);
        edges.faulty(Counties.FULL.replace("person cb", "person ^pa"), 3);
        edges.faulty(Counties.FULL.replace("umbrella w", "umbrella ^cb"), 3);
    }

    private void secondCounty() {
        edges.sentence(3, "a second county: at that WORD.");
        edges.fromNew();
        edges.faulty(HEAD + ";^county", 3);
        edges.faulty(HEAD + ";^county lapse 2 gust 0 rains 0", 3);
        edges.faulty(SMALL + ";^county lapse 99", 3);
        edges.faulty(Counties.FULL + ";^county", 3);
    }

    private void formAtEnd() {
        edges.sentence(3, "1 FORM: TOKEN with which no COUNTY goes on (the end: its place).");
        edges.fromNew();
        String[] lines = {"county lapse 2 gust 0 rains 0", "person q plain", "umbrella w silk lands 1 ribs 4 with p", "lent u p day 1",
            "left u day 1", "changed u v day 1", "rain day 1", "claims p u day 1"};
        for (int i = 0; i < lines.length; i++) {
            String ahead = i == 0 ? "" : PAIR + ";";
            String[] parts = lines[i].split(" ");
            StringBuilder text = new StringBuilder(ahead);
            for (int k = 0; k < parts.length - 1; k++) {
                text.append(k == 0 ? "" : " ").append(parts[k]);
                boolean umbrellaIsWhole = i == 2 && k == parts.length - 3;
                if (!umbrellaIsWhole) {
                    edges.faulty(text + "^", 1);
                    edges.faulty(text + "   ^", 1);
                    edges.faulty(text + " ^;", 1);
                    edges.faulty(text + " ^; rain day 1", 1);
                    edges.faulty(text + " ^#", 1);
                }
            }
        }
    }

    private void formInside() {
        edges.sentence(3, "1 FORM: the first byte that begins no TOKEN, or TOKEN with which no COUNTY goes on.");
        edges.fromNew();
        String[] lines = {"county lapse 2 gust 0 rains 0", "person q plain", "umbrella w silk lands 1 ribs 4 with p", "lent u p day 1",
            "left u day 1", "changed u v day 1", "rain day 1", "claims p u day 1"};
        for (int i = 0; i < lines.length; i++) {
            String ahead = i == 0 ? "" : PAIR + ";";
            String[] parts = lines[i].split(" ");
            StringBuilder text = new StringBuilder(ahead);
            for (int k = 0; k < parts.length; k++) {
                boolean whole = Character.isDigit(parts[k].charAt(0));
                // A number where a word must stand, a word where a number must, and what is no token at all.
                edges.faulty(text + "^" + (whole ? "p" : "1") + " 1", 1);
                edges.faulty(text + "^!", 1);
                edges.faulty(text + "^\n", 1);
                text.append(parts[k]).append(' ');
            }
            edges.faulty(text + "^p", 1);
            edges.faulty(text + "^1", 1);
        }
        edges.faulty("^foo", 1);
        edges.faulty(PAIR + ";^foo", 1);
        edges.faulty(PAIR + ";^rains day 1", 1);
    }

    private void formLeftOut() {
        edges.sentence(3, "1 FORM: TOKEN with which no COUNTY goes on: a WORD, or WORD and WHOLE, that must stand there is left out.");
        edges.fromNew();
        edges.faulty("county ^2 gust 0 rains 0;person p plain", 1);
        edges.faulty("county ^gust 0 rains 0;person p plain", 1);
        edges.faulty("county lapse ^gust 0 rains 0;person p plain", 1);
        edges.faulty("county lapse 2 ^0 rains 0;person p plain", 1);
        edges.faulty("county lapse 2 ^rains 0;person p plain;umbrella u silk lands 1 ribs 4", 1);
        edges.faulty("county lapse 2 gust ^rains 0;person p plain;umbrella u silk lands 1 ribs 4", 1);
        edges.faulty("county lapse 2 gust 0 ^0;person p plain", 1);
        edges.faulty("county lapse 2 gust 0 ^;person p plain;umbrella u silk lands 1 ribs 4", 1);
        edges.faulty("county ^;person p plain", 1);
        edges.faulty(SMALL + ";person q ^;rain day 1", 1);
        edges.faulty(SMALL + ";person plain ^;rain day 1", 1);
        edges.faulty(SMALL + ";umbrella v ^lands 1 ribs 4", 1);
        edges.faulty(SMALL + ";umbrella silk ^lands 1 ribs 4", 1);
        edges.faulty(SMALL + ";umbrella v silk ^1 ribs 4", 1);
        edges.faulty(SMALL + ";umbrella v silk ^ribs 4", 1);
        edges.faulty(SMALL + ";umbrella v silk lands ^ribs 4", 1);
        edges.faulty(SMALL + ";umbrella v silk lands 1 ^4", 1);
        edges.faulty(SMALL + ";umbrella v silk lands 1 ^with p", 1);
        edges.faulty(SMALL + ";umbrella v silk lands 1 ^;rain day 1", 1);
        edges.faulty(SMALL + ";umbrella v silk lands 1 ribs ^with p", 1);
        edges.faulty(SMALL + ";umbrella v silk ^with p", 1);
        edges.faulty(SMALL + ";lent u p ^1", 1);
        edges.faulty(SMALL + ";lent u p ^;rain day 1", 1);
        edges.faulty(SMALL + ";left u ^1", 1);
        edges.faulty(SMALL + ";left u ^;rain day 1", 1);
        edges.faulty(PAIR + ";changed u v ^1", 1);
        edges.faulty(SMALL + ";rain ^1", 1);
        edges.faulty(SMALL + ";claims p u ^1", 1);
        // A NAME left out: the next word is taken for it, and isn't told.
        edges.faulty(SMALL + ";lent ^p day 1", 2);
        edges.faulty(SMALL + ";lent u ^day 1", 2);
        edges.faulty(SMALL + ";left ^day 1", 2);
        edges.faulty(PAIR + ";changed u ^day 1", 2);
        edges.faulty(SMALL + ";claims ^u day 1", 2);
        edges.faulty(SMALL + ";claims p ^day 1", 2);
    }

    private void firstFromLeft() {
        edges.sentence(3, "FAULTS, the first that is met from the left.");
        edges.from(Counties.BASE, "lend 0 1", "mark");
        edges.faulty("county lapse ^0 gust 100 rains #", 4);
        edges.faulty("county lapse 1 gust ^100 rains 0;person", 1);
        edges.faulty(SMALL + ";left ^v day 41;county", 2);
        edges.faulty(SMALL + ";left u day ^41;county", 4);
        edges.faulty(SMALL + ";^county;left v", 3);
        edges.faulty("^rain;county lapse 0", 6);
        edges.faulty(SMALL + ";rain day 1".repeat(16) + ";^rain day 99;left v", 5);
        edges.faulty(SMALL + ";person ^u odd", 3);
        edges.faulty(SMALL + ";claims ^v v day 41", 2);
    }

    private void leastNumber() {
        edges.sentence(3, "of one place the least number.");
        edges.fromNew();
        // At the end both FORM and LACKS.
        edges.faulty("county^", 1);
        edges.faulty(HEAD + ";^", 1);
        edges.faulty(HEAD + ";person p plain;^", 1);
        edges.faulty(HEAD + ";person p plain;umbrella u silk lands 1^", 1);
        edges.faulty("^", 1);
    }

    private void lacksAtEnd() {
        edges.sentence(3, "LACKS: at the end: no person, no umbrella.");
        edges.from(Counties.BASE, "leave 0", "mark");
        edges.faulty(HEAD + "^", 6);
        edges.faulty(HEAD + "    ^", 6);
        edges.faulty(HEAD + ";person p plain^", 6);
        edges.faulty(HEAD + ";person p plain ^", 6);
        edges.faulty(HEAD + ";umbrella u silk lands 1 ribs 4^", 6);
        edges.faulty(HEAD + ";rain day 1^", 6);
        edges.faulty(HEAD + ";umbrella u silk lands 1 ribs 4;left u day 3^", 6);
        edges.good(HEAD + ";umbrella u silk lands 1 ribs 4;person p plain", 1);
    }
}
