/** Promises 1 to 5: the tape, the text of a county and its faults. */
final class TextTest {
    private final Checks checks = new Checks("TextTest");

    private TextTest() {
    }

    public static void main(String[] args) {
        TextTest test = new TextTest();
        test.newObject();
        test.tape();
        test.countyTold();
        test.countyRefused();
        test.faultAndWhere();
        test.goodTexts();
        test.form();
        test.names();
        test.wholes();
        test.many();
        test.lacks();
        test.checks.end();
    }

    /** Promise 1. */
    private void newObject() {
        UmbrellaHeir x = new UmbrellaHeir();
        for (int what = 0; what <= 10; what++) {
            checks.due("size of nothing", x.size(what), 0);
        }
        checks.due("trouble at first", x.trouble(), 0);
        checks.due("fault at first", x.fault(), 0);
        checks.due("where at first", x.where(), -1);
        checks.refused(x, "umbrella", x.umbrella(0, 0), 1);
        checks.refused(x, "person", x.person(0, 0), 1);
        checks.refused(x, "alike", x.alike(0), 1);
        checks.refused(x, "owing", x.owing(0, 1), 1);
        checks.refused(x, "guest", x.guest(1), 1);
        checks.refused(x, "undo", x.undo(), 6);
        checks.refused(x, "lend", x.lend(0, 0), 1);
        checks.refused(x, "back", x.back(0), 1);
    }

    /** Promise 2. */
    private void tape() {
        UmbrellaHeir x = new UmbrellaHeir();
        x.undo();
        for (int i = 1; i <= 50; i++) {
            checks.due("feed", x.feed(0x20202020, 0x20202020, 0x20202020, 0x20202020, 0x20202020), 20 * i);
        }
        checks.due("feed beyond 1,000", x.feed(0, 0, 0, 0, 0), -1);
        checks.due("tape is full", x.size(10), 1000);
        checks.due("feed is not refused by a number", x.trouble(), 6);
        checks.refused(x, "blanks alone", x.county(1000), 4);
        checks.due("fault of blanks", x.fault(), 1);
        checks.due("where of blanks", x.where(), 1000);
        UmbrellaHeir y = new UmbrellaHeir();
        y.feed(0x636f756e, 0x7479206c, 0x61707365, 0x2031ff20, 0x80000000);
        checks.refused(y, "bytes above 127", y.county(20), 4);
        checks.due("the highest byte is first", y.where(), 14);
    }

    /** Promise 3. */
    private void countyTold() {
        UmbrellaHeir x = new UmbrellaHeir();
        checks.fine(x, "county", Checks.tell(x, Counties.BASE), 5);
        checks.due("the tape is empty then", x.size(10), 0);
        x.lend(0, 1);
        x.day(false);
        x.mark();
        Checks.feed(x, Counties.SMALL + "nonsense");
        checks.fine(x, "county of the first bytes", x.county(Counties.SMALL.length()), 1);
        checks.due("the tape is empty, too", x.size(10), 0);
        checks.due("nothing to undo", x.size(8), 0);
        checks.due("no marks", x.size(9), 0);
        checks.due("no dry day", x.size(7), 0);
        checks.due("people", x.size(3), 1);
        checks.refused(x, "undo", x.undo(), 6);
        checks.refused(x, "back", x.back(0), 1);
        checks.due("has it as told", x.umbrella(0, 3), 0);
    }

    private void countyRefused() {
        UmbrellaHeir x = Checks.told(Counties.BASE);
        x.lend(0, 1);
        x.mark();
        Checks.feed(x, "county");
        checks.refused(x, "county(21)", x.county(21), 2);
        checks.refused(x, "county(-1)", x.county(-1), 2);
        checks.due("the tape stays", x.size(10), 20);
        checks.refused(x, "county(6)", x.county(6), 4);
        checks.due("the tape is empty", x.size(10), 0);
        checks.due("the county stays", x.size(4), 5);
        checks.due("undo stays", x.size(8), 1);
        checks.due("marks stay", x.size(9), 1);
        checks.due("now stays", x.umbrella(0, 3), 1);
        checks.due("the log stays", x.hasIt(0, 40), 0);
    }

    /** Promises 4 and 5. */
    private void faultAndWhere() {
        UmbrellaHeir x = new UmbrellaHeir();
        Checks.tell(x, "county lapse 0");
        checks.due("fault", x.fault(), 4);
        checks.due("where", x.where(), 13);
        checks.due("where again", x.where(), 13);
        x.size(0);
        x.feed(0, 0, 0, 0, 0);
        checks.due("where behind calls that aren't refused by a number", x.where(), 13);
        x.county(21);
        checks.due("fault stays behind 2", x.fault(), 4);
        checks.due("where behind 2", x.where(), -1);
        x.county(0);
        checks.due("fault of nothing", x.fault(), 1);
        checks.due("where of nothing", x.where(), 0);
        x.right();
        checks.due("where behind another refusal", x.where(), -1);
        checks.due("fault behind another refusal", x.fault(), 1);
        Checks.tell(x, Counties.SMALL);
        checks.due("fault without one", x.fault(), 0);
        checks.due("where without one", x.where(), -1);
        Checks.tell(x, "county county");
        x.right();
        checks.due("where behind an answer", x.where(), -1);
    }

    private void goodTexts() {
        good("county lapse 1 gust 0 rains 0;person p child;umbrella u stick lands 0 ribs 4", 1);
        good("county lapse 30 gust 99 rains 99;person p careless;umbrella u parasol lands 99 ribs 12 with p", 1);
        good("  county   lapse02gust 00rains 7 ;person p plain;  umbrella u silk lands5ribs 04with p  ", 1);
        good("county lapse 2 gust 0 rains 0;person with plain;person day child;person plain careless;person lapse plain"
            + ";umbrella silk silk lands 1 ribs 4 with with;umbrella lands cotton lands 1 ribs 4 with day"
            + ";left lands day 3;lent silk day day 3;changed silk lands day 3;claims with silk day 40;claims day lands day 0", 2);
        good(Counties.SMALL + ";person abcdefgh plain;umbrella zzzzzzzz silk lands 1 ribs 4 with abcdefgh", 2);
        good(Counties.SMALL + ";rain day 0;left u day 0;lent u p day 40;rain day 40;claims p u day 3;claims p u day 2", 1);
    }

    private void form() {
        faulty("^", 1);
        faulty("   ^", 1);
        faulty("^foo", 1);
        faulty("^;", 1);
        faulty("^7", 1);
        faulty("county^", 1);
        faulty("county ^gust", 1);
        faulty("county lapse ^gust", 1);
        faulty("county lapse 2 gust ^;", 1);
        faulty("county lapse ^;person p plain", 1);
        faulty("county lapse 2 gust 3 rains ^;person p plain", 1);
        faulty("county lapse 2 gust 3 ^;person p plain", 1);
        faulty("county lapse 2 gust 3 rains 4 ^5", 1);
        faulty("county lapse 2 gust 3 rains 4 ^person", 1);
        faulty("^countylapse 2", 1);
        faulty("^County", 1);
        faulty("county^\t", 1);
        faulty("county lapse ^100", 1);
        faulty("county lapse ^001", 1);
        faulty("county lapse ^-1", 1);
        faulty(Counties.SMALL + ";^", 1);
        faulty(Counties.SMALL + ";  ^", 1);
        faulty(Counties.SMALL + ";^;", 1);
        faulty(Counties.SMALL + ";person ^abcdefghi plain", 1);
        faulty(Counties.SMALL + ";person ^person plain", 1);
        faulty(Counties.SMALL + ";person ^claims plain", 1);
        faulty(Counties.SMALL + ";person ^9", 1);
        faulty(Counties.SMALL + ";person q^", 1);
        faulty(Counties.SMALL + ";person q ^silk", 1);
        faulty(Counties.SMALL + ";umbrella v ^plain", 1);
        faulty(Counties.SMALL + ";umbrella v silk ^ribs", 1);
        faulty(Counties.SMALL + ";person ^;rain day 1", 1);
        faulty(Counties.SMALL + ";person q ^;rain day 1", 1);
        faulty(Counties.SMALL + ";umbrella ^;rain day 1", 1);
        faulty(Counties.SMALL + ";umbrella v ^;rain day 1", 1);
        faulty(Counties.SMALL + ";umbrella v silk ^;rain day 1", 1);
        faulty(Counties.SMALL + ";umbrella v silk lands ^;rain day 1", 1);
        faulty(Counties.SMALL + ";umbrella v silk lands 1 ^;rain day 1", 1);
        faulty(Counties.SMALL + ";umbrella v silk lands 1 ribs ^;rain day 1", 1);
        faulty(Counties.SMALL + ";umbrella v silk lands 1 ribs 4 with ^;rain day 1", 1);
        faulty(Counties.SMALL + ";left ^;rain day 1", 1);
        faulty(Counties.SMALL + ";lent u ^;rain day 1", 1);
        faulty(Counties.SMALL + ";rain day ^;rain day 1", 1);
        faulty(Counties.SMALL + ";claims ^;rain day 1", 1);
        faulty(Counties.SMALL + ";claims p ^;rain day 1", 1);
        faulty(Counties.SMALL + ";claims p u ^;rain day 1", 1);
        faulty(Counties.SMALL + ";claims p u day ^;rain day 1", 1);
        faulty(Counties.SMALL + ";umbrella v silk lands 1 ribs 4 ^p", 1);
        faulty(Counties.SMALL + ";umbrella v silk lands 1 ribs 4 with^", 1);
        faulty(Counties.SMALL + ";umbrella v silk lands 1 ribs 4 with ^rain", 1);
        faulty(Counties.SMALL + " ^with", 1);
        faulty(Counties.SMALL + ";lent ^county", 1);
        faulty(Counties.SMALL + ";lent u p ^1", 1);
        faulty(Counties.SMALL + ";left u ^p", 1);
        faulty(Counties.SMALL + ";changed u ^umbrella", 1);
        faulty(Counties.SMALL + ";rain ^u", 1);
        faulty(Counties.SMALL + ";rain day^", 1);
        faulty(Counties.SMALL + ";rain day 3 ^" + (char) 255, 1);
        faulty(Counties.SMALL + "^" + (char) 0, 1);
    }

    private void names() {
        faulty(Counties.SMALL + ";umbrella v silk lands 1 ribs 4 with ^q", 2);
        faulty(Counties.SMALL + ";umbrella v silk lands 1 ribs 4 with ^u", 2);
        faulty(Counties.SMALL + ";umbrella v silk lands 1 ribs 4 with ^v", 2);
        faulty(Counties.SMALL + ";lent ^p", 2);
        faulty(Counties.SMALL + ";lent u ^u", 2);
        faulty(Counties.SMALL + ";left ^p", 2);
        faulty(Counties.SMALL + ";left ^v day 3;umbrella v silk lands 1 ribs 4", 2);
        faulty(Counties.SMALL + ";changed ^p", 2);
        faulty(Counties.SMALL + ";changed u ^p", 2);
        faulty(Counties.SMALL + ";claims ^u", 2);
        faulty(Counties.SMALL + ";claims p ^p", 2);
        faulty(Counties.SMALL + ";claims p ^day", 2);
        faulty(Counties.SMALL + ";person ^p plain", 3);
        faulty(Counties.SMALL + ";person ^u plain", 3);
        faulty(Counties.SMALL + ";umbrella ^u", 3);
        faulty(Counties.SMALL + ";umbrella ^p", 3);
        faulty(Counties.SMALL + ";changed u ^u", 3);
        faulty(Counties.SMALL + ";^county lapse 2", 3);
        faulty("county lapse 2 gust 3 rains 4;^county", 3);
    }

    private void wholes() {
        faulty("county lapse ^0", 4);
        faulty("county lapse ^31", 4);
        faulty("county lapse ^00 gust", 4);
        faulty(Counties.SMALL + ";umbrella v silk lands 99 ribs ^3", 4);
        faulty(Counties.SMALL + ";umbrella v silk lands 99 ribs ^13", 4);
        faulty(Counties.SMALL + ";lent u p day ^41", 4);
        faulty(Counties.SMALL + ";rain day ^41", 4);
        faulty(Counties.SMALL + ";rain day 5;left u day ^4", 4);
        faulty(Counties.SMALL + ";left u day 5;rain day ^4", 4);
        faulty(Counties.SMALL + ";left u day 5;claims p u day 1;lent u p day ^4", 4);
        faulty(Counties.SMALL + ";claims p u day ^41", 4);
    }

    private void many() {
        String people = Counties.SMALL + ";person a plain;person b plain;person c plain;person d plain;person e plain";
        good(people, 1);
        faulty(people + ";^person", 5);
        String umbrellas = Counties.SMALL;
        for (char name = 'v'; name <= 'y'; name++) {
            umbrellas += ";umbrella " + name + " silk lands 1 ribs 4";
        }
        good(umbrellas, 5);
        faulty(umbrellas + ";^umbrella u", 5);
        String log = Counties.SMALL + (";rain day 1;left u day 1;lent u p day 1;rain day 2").repeat(1)
            + ";rain day 3".repeat(12);
        good(log, 1);
        faulty(log + ";^left", 5);
        faulty(log + ";^lent", 5);
        faulty(log + ";^changed", 5);
        faulty(log + ";^rain day 3", 5);
        String claims = Counties.SMALL + ";claims p u day 1".repeat(6);
        good(claims, 1);
        faulty(claims + ";^claims p u day 1", 5);
    }

    private void lacks() {
        for (String head : new String[] {"person", "umbrella", "lent", "left", "changed", "rain", "claims"}) {
            faulty("^" + head, 6);
            faulty("  ^" + head + " county", 6);
        }
        faulty("county lapse 1 gust 0 rains 0^", 6);
        faulty("county lapse 1 gust 0 rains 0;person p plain ^", 6);
        faulty("county lapse 1 gust 0 rains 0;umbrella u silk lands 1 ribs 4^", 6);
        faulty("county lapse 1 gust 0 rains 0;person p plain;^", 1);
    }

    private void good(String text, int umbrellas) {
        UmbrellaHeir x = new UmbrellaHeir();
        checks.fine(x, "county of " + text, Checks.tell(x, text), umbrellas);
        checks.due("fault of " + text, x.fault(), 0);
    }

    /** The sign ^ stands where the fault is due. */
    private void faulty(String marked, int fault) {
        int place = marked.indexOf('^');
        UmbrellaHeir x = new UmbrellaHeir();
        checks.refused(x, "county of " + marked, Checks.tell(x, marked.replace("^", "")), 4);
        checks.due("fault of " + marked, x.fault(), fault);
        checks.due("where of " + marked, x.where(), place);
    }
}
