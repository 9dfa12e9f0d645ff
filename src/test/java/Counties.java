/** Texts that several tests tell. */
final class Counties {
    /**
     * Umbrellas a (silk, 50, two places, ann), b (cotton, 30, three, bob), c (cotton, 20, three, kid, nobody's title),
     * d (stick, 7, one, cal, nobody's title), e (parasol, 11, one, cal).
     */
    static final String BASE = "county lapse 3 gust 25 rains 40;"
        + "person ann plain;person bob plain;person kid child;person cal careless;"
        + "umbrella a silk lands 50 ribs 8 with ann;umbrella b cotton lands 30 ribs 12 with bob;"
        + "umbrella c cotton lands 20 ribs 12 with kid;umbrella d stick lands 7 ribs 5 with cal;"
        + "umbrella e parasol lands 11 ribs 4 with cal";

    static final int ANN = 0;
    static final int BOB = 1;
    static final int KID = 2;
    static final int CAL = 3;

    static final int A = 0;
    static final int B = 1;
    static final int C = 2;
    static final int D = 3;
    static final int E = 4;

    /** The shortest county without a fault, for lines put behind it. */
    static final String SMALL = "county lapse 2 gust 0 rains 0;person p plain;umbrella u silk lands 1 ribs 4 with p";

    private Counties() {
    }

    /** So many plain people, each with a silk umbrella (10 lands, one place) whose title is his. */
    static String silks(int many) {
        StringBuilder text = new StringBuilder("county lapse 9 gust 0 rains 50");
        for (int i = 0; i < many; i++) {
            text.append(";person ").append((char) ('a' + i)).append(" plain");
        }
        for (int i = 0; i < many; i++) {
            text.append(";umbrella ").append((char) ('v' + i)).append(" silk lands 10 ribs 4 with ").append((char) ('a' + i));
        }
        return text.toString();
    }
}
