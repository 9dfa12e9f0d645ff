import java.util.ArrayList;
import java.util.List;

/** Texts that several tests tell. */
final class Counties {
    /**
     * Umbrellas a (silk, 50, two places, ann), b (cotton, 30, three, bob), c (cotton, 20, three, kid, nobody's title),
     * d (stick, 7, one, cal, nobody's title), e (parasol, 11, one, cal).
     */
    static final String BASE = "county lapse 3 gust 25 rains 40;"
        + "person ann plain;person bob plain;person kid child;person cal careless;"
        + "umbrella a silk lands 50 ribs 8 with ann;umbrella b cotton lands 30 ribs 12 with bob;"
        + "umbrella c cotton lands 20 ribs 12 with kid;umbrella d stick lands 7 ribs 5 with cal;"
        + "umbrella e parasol lands 11 ribs 4 with cal";

    static final int ANN = 0;
    static final int BOB = 1;
    static final int KID = 2;
    static final int CAL = 3;

    static final int A = 0;
    static final int B = 1;
    static final int C = 2;
    static final int D = 3;
    static final int E = 4;

    /** The shortest county without a fault, for lines put behind it. */
    static final String SMALL = "county lapse 2 gust 0 rains 0;person p plain;umbrella u silk lands 1 ribs 4 with p";

    /** The least of all: nobody has the only umbrella, the only person is a child; nothing happened, nothing is claimed. */
    static final String LEAST = "county lapse 1 gust 0 rains 0;person p child;umbrella u stick lands 0 ribs 4";

    /** As many people (two of each sort), umbrellas, lines of the log and claims as there is room for. */
    static final String FULL = "county lapse 30 gust 99 rains 99"
        + ";person pa plain;person pb plain;person ka child;person kb child;person ca careless;person cb careless"
        + ";umbrella s silk lands 99 ribs 12 with pa;umbrella t cotton lands 99 ribs 12 with pb"
        + ";umbrella u stick lands 99 ribs 12 with ka;umbrella v parasol lands 99 ribs 12 with ca"
        + ";umbrella w cotton lands 99 ribs 12 with cb"
        + ";lent s pb day 0;left t day 0;changed u v day 0;rain day 0" + ";rain day 20".repeat(11) + ";rain day 40"
        + ";claims pa s day 0".repeat(5) + ";claims pb s day 40";

    private Counties() {
    }

    /** So many plain people, each with a silk umbrella (10 lands, one place) whose title is his. */
    static String silks(int many) {
        StringBuilder text = new StringBuilder("county lapse 9 gust 0 rains 50");
        for (int i = 0; i < many; i++) {
            text.append(";person ").append((char) ('a' + i)).append(" plain");
        }
        for (int i = 0; i < many; i++) {
            text.append(";umbrella ").append((char) ('v' + i)).append(" silk lands 10 ribs 4 with ").append((char) ('a' + i));
        }
        return text.toString();
    }

    /** What fills up all that can be kept: 16 acts to undo (of 18), 3 marks, a tape of 1,000 bytes. */
    static String[] fullSteps() {
        List<String> steps = new ArrayList<>(List.of("mark", "lend 0 1", "day false", "mark", "leave 1", "day true", "mark"));
        for (int i = 0; i < 14; i++) {
            steps.add("lend 4 " + i % 6);
        }
        for (int i = 0; i < 50; i++) {
            steps.add("feed 538976288 538976288 538976288 538976288 538976288");
        }
        return steps.toArray(new String[0]);
    }
}
