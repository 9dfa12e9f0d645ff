import java.util.ArrayList;
import java.util.List;
import java.util.Random;

/**
 * UNSEEN, where it matters: claims that are so by a change which the log doesn't tell. Random claims are seldom so by any change,
 * so the claims are taken from a county whose log tells the change, and told in one whose log doesn't.
 */
final class UnseenTest {
    private static final int COUNTIES = 1000;
    private static final int DAYS = 41;

    private final Random random = new Random(41);
    private final Checks checks = new Checks("UnseenTest");
    private int onlyByChange = 0;
    private int byOneWayAlone = 0;

    private UnseenTest() {
    }

    public static void main(String[] args) {
        UnseenTest test = new UnseenTest();
        for (int i = 0; i < COUNTIES; i++) {
            test.county();
        }
        test.checks.due("enough counties in which not all claims are so without a change: " + test.onlyByChange, test.onlyByChange > 100, true);
        test.checks.due("enough counties with one way alone: " + test.byOneWayAlone, test.byOneWayAlone > 10, true);
        test.checks.end();
    }

    private void county() {
        int people = 2 + random.nextInt(5);
        int umbrellas = 2 + random.nextInt(4);
        String told = told(people, umbrellas);
        List<String> log = new ArrayList<>();
        List<Integer> days = new ArrayList<>();
        tellLog(people, umbrellas, log, days);
        int way = unseen(told, umbrellas);
        String text = told + String.join("", log);
        if (way >= 0) {
            log.add(firstOf(way / 100, days), ";changed u" + letter(way % 10) + " u" + letter(way / 10 % 10) + " day " + way / 100);
        }
        text += claims(told + String.join("", log), umbrellas, Math.max(way, 0) / 100);
        UmbrellaHeir x = Checks.told(text);
        PlainModel model = new PlainModel();
        Calls.tell(model, text);
        compare(text, x, model);
        checks.due("the change " + way + " is a way of " + text, isWay(Checks.told(text), way), true);
        onlyByChange += x.judge() != -2 ? 1 : 0;
        byOneWayAlone += x.judge() != -2 && x.ways() == 1 ? 1 : 0;
    }

    private void compare(String text, UmbrellaHeir x, PlainModel model) {
        checks.fine(x, "judge of " + text, x.judge(), model.judge());
        int ways = model.ways();
        checks.fine(x, "ways of " + text, x.ways(), ways);
        // The plain model works all ways out anew for each: a few of many will do.
        for (int i = 0; i < ways; i += i < 3 || i > ways - 4 ? 1 : 11) {
            checks.fine(x, "wayAt " + i + " of " + text, x.wayAt(i), model.wayAt(i));
        }
        checks.refused(x, "wayAt " + ways + " of " + text, x.wayAt(ways), 1);
    }

    private static boolean isWay(UmbrellaHeir x, int way) {
        int ways = x.ways();
        for (int i = 0; i < ways; i++) {
            if (x.wayAt(i) == way) {
                return true;
            }
        }
        return false;
    }

    // ---- texts

    private String told(int people, int umbrellas) {
        StringBuilder text = new StringBuilder("county lapse ").append(1 + random.nextInt(12)).append(" gust 0 rains 0");
        for (int p = 0; p < people; p++) {
            text.append(";person p").append(letter(p)).append(pick(" plain", " plain", " child", " careless"));
        }
        for (int u = 0; u < umbrellas; u++) {
            text.append(";umbrella u").append(letter(u)).append(pick(" silk", " silk", " silk", " cotton", " cotton", " parasol", " stick"))
                .append(" lands ").append(random.nextInt(4)).append(" ribs ").append(pick("8", "8", "8", "9"));
            if (random.nextInt(5) != 0) {
                text.append(" with p").append(letter(random.nextInt(people)));
            }
        }
        return text.toString();
    }

    /** A change of two alike as wayAt tells it, on one of the first days, where the log has most; -2 for none. */
    private int unseen(String told, int umbrellas) {
        UmbrellaHeir x = Checks.told(told);
        List<Integer> pairs = new ArrayList<>();
        for (int u = 0; u < umbrellas; u++) {
            for (int v = u + 1; v < umbrellas; v++) {
                if ((x.alike(u) >> v & 1) == 1) {
                    pairs.add(10 * u + v);
                }
            }
        }
        boolean none = pairs.isEmpty() || random.nextInt(8) == 0;
        return none ? -2 : 100 * random.nextInt(random.nextBoolean() ? 4 : 12) + pairs.get(random.nextInt(pairs.size()));
    }

    /** At most 15 lines, so that there is room for the change. */
    private void tellLog(int people, int umbrellas, List<String> log, List<Integer> days) {
        int many = 15 - random.nextInt(random.nextBoolean() ? 4 : 16);
        int day = random.nextInt(4);
        for (int i = 0; i < many; i++) {
            String u = " u" + letter(random.nextInt(umbrellas));
            String line = pick(";rain", ";rain", ";rain", ";lent" + u + " p" + letter(random.nextInt(people)), ";left" + u);
            log.add(line + " day " + day);
            days.add(day);
            day = Math.min(DAYS - 1, day + random.nextInt(3));
        }
    }

    private static int firstOf(int day, List<Integer> days) {
        int at = 0;
        while (at < days.size() && days.get(at) < day) {
            at++;
        }
        return at;
    }

    /** Up to six claims that are so by the text. */
    private String claims(String text, int umbrellas, int from) {
        UmbrellaHeir x = Checks.told(text);
        StringBuilder claims = new StringBuilder();
        int many = 0;
        for (int i = 0; i < 20 && many < 6; i++) {
            int day = random.nextInt(3) == 0 ? random.nextInt(DAYS) : Math.min(DAYS - 1, from + random.nextInt(6));
            int u = random.nextInt(umbrellas);
            int p = x.titleOf(u, day);
            if (p >= 0) {
                claims.append(";claims p").append(letter(p)).append(" u").append(letter(u)).append(" day ").append(day);
                many++;
            }
        }
        return claims.toString();
    }

    private static char letter(int i) {
        return (char) ('a' + i);
    }

    private String pick(String... ones) {
        return ones[random.nextInt(ones.length)];
    }
}
