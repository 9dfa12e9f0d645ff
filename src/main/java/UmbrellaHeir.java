import java.util.NoSuchElementException;

/**
 * Umbrellas inherit: a county told as a text, who has which umbrella, whose title it is,
 * and what follows from that by the log and from now.
 */
public final class UmbrellaHeir {

    /** There is none; refused. */
    public static final int NONE = -1;

    private static final int NOBODY = -2;
    private static final int NO_CHANGE = -1000;
    private static final int NO_HEIRS = -100;

    private static final int MOST_BYTES = 1000;
    private static final int MOST_PEOPLE = 6;
    private static final int MOST_UMBRELLAS = 5;
    private static final int MOST_LOGGED = 16;
    private static final int MOST_CLAIMS = 6;
    private static final int MOST_EXCHANGES = 3;
    private static final int MOST_KEPT = 16;
    private static final int MOST_MARKS = 3;
    private static final int MOST_DRY = 30;
    private static final int MOST_HOURS = 6;
    private static final int MOST_SHARES = 9;
    private static final int MOST_LANDS = 99;
    private static final int MOST_CLOSE = 6;
    private static final int MOST_YEARS = 60;
    private static final int DAYS = 41;
    private static final int SEEDS = 65537;

    private static final int SILK = 0;
    private static final int STICK = 2;
    private static final int PARASOL = 3;

    private static final int CHILD = 1;
    private static final int CARELESS = 2;

    private static final int LENT = 0;
    private static final int LEFT = 1;
    private static final int CHANGED = 2;
    private static final int RAIN = 3;

    private static final int NOT_REFUSED = 0;
    private static final int NONE_SUCH = 1;
    private static final int BAD_NUMBER = 2;
    private static final int NO_ROOM = 3;
    private static final int FAULTY = 4;
    private static final int NOT_SO = 5;
    private static final int THERE_IS_NONE = 6;

    private County county = new County();
    private final Reader reader = new Reader();
    private int faultNumber = 0;
    private int faultPlace = 0;
    private int refusal = NOT_REFUSED;

    private final Holding now = new Holding();
    private final Holding trial = new Holding();
    private final Chronicle chronicle = new Chronicle();
    private final Seating seating = new Seating();
    private final Mending mending = new Mending();

    private final long[] kept = new long[MOST_KEPT];
    private int keptCount = 0;
    private final long[] marks = new long[MOST_MARKS];
    private int markCount = 0;

    public UmbrellaHeir() {
    }

    // ---- the county

    public int feed(int a, int b, int c, int d, int e) {
        if (reader.taped + 20 > MOST_BYTES) {
            return NONE;
        }
        reader.putNumber(a);
        reader.putNumber(b);
        reader.putNumber(c);
        reader.putNumber(d);
        reader.putNumber(e);
        return reader.taped;
    }

    public int county(int n) {
        if (n < 0 || n > reader.taped) {
            return refuse(BAD_NUMBER);
        }
        boolean fine = reader.read(n);
        faultNumber = reader.fault;
        faultPlace = reader.start;
        if (!fine) {
            return refuse(FAULTY);
        }
        county = reader.exchangeFor(county);
        now.begin(county);
        chronicle.begin(county);
        keptCount = 0;
        markCount = 0;
        return answer(county.umbrellas);
    }

    public int fault() {
        return faultNumber;
    }

    public int where() {
        return refusal == FAULTY ? faultPlace : NONE;
    }

    // ---- now

    public int umbrella(int u, int what) {
        if (!isUmbrella(u)) {
            return refuse(NONE_SUCH);
        }
        switch (what) {
            case 0:
                return answer(county.kind[u]);
            case 1:
                return answer(county.lands[u]);
            case 2:
                return answer(county.ribs[u]);
            case 3:
                return answer(now.holder[u]);
            case 4:
                return answer(now.title[u]);
            default:
                return refuse(NONE_SUCH);
        }
    }

    public int person(int p, int what) {
        if (!isPerson(p)) {
            return refuse(NONE_SUCH);
        }
        switch (what) {
            case 0:
                return answer(county.sort[p]);
            case 1:
                return answer(now.heldBy(county, p));
            case 2:
                return answer(now.landsFor(county, p));
            default:
                return refuse(NONE_SUCH);
        }
    }

    public int alike(int u) {
        if (!isUmbrella(u)) {
            return refuse(NONE_SUCH);
        }
        int bits = 0;
        for (int v = 0; v < county.umbrellas; v++) {
            if (v != u && county.areAlike(u, v)) {
                bits |= 1 << v;
            }
        }
        return answer(bits);
    }

    public int right() {
        if (!isTold()) {
            return refuse(NONE_SUCH);
        }
        return answer(now.rightOnes(county));
    }

    public int richest() {
        if (!isTold()) {
            return refuse(NONE_SUCH);
        }
        int best = NOBODY;
        int most = 0;
        for (int p = 0; p < county.people; p++) {
            int lands = now.landsFor(county, p);
            if (lands > most) {
                most = lands;
                best = p;
            }
        }
        return answer(best);
    }

    // ---- by the log, behind a day (0 .. 40)

    public int hasIt(int u, int day) {
        if (!isUmbrella(u)) {
            return refuse(NONE_SUCH);
        }
        if (!isDay(day)) {
            return refuse(BAD_NUMBER);
        }
        return answer(chronicle.behind(day).holder[u]);
    }

    public int titleOf(int u, int day) {
        if (!isUmbrella(u)) {
            return refuse(NONE_SUCH);
        }
        if (!isDay(day)) {
            return refuse(BAD_NUMBER);
        }
        return answer(chronicle.behind(day).title[u]);
    }

    public int landsOf(int p, int day) {
        if (!isPerson(p)) {
            return refuse(NONE_SUCH);
        }
        if (!isDay(day)) {
            return refuse(BAD_NUMBER);
        }
        return answer(chronicle.behind(day).landsFor(county, p));
    }

    public int lapsed(int day) {
        if (!isTold()) {
            return refuse(NONE_SUCH);
        }
        if (!isDay(day)) {
            return refuse(BAD_NUMBER);
        }
        return answer(chronicle.behind(day).landsFor(county, NOBODY));
    }

    public int passed(int u) {
        if (!isUmbrella(u)) {
            return refuse(NONE_SUCH);
        }
        int before = chronicle.atFirst().title[u];
        int times = 0;
        for (int day = 0; day < DAYS; day++) {
            int title = chronicle.behind(day).title[u];
            if (title != before) {
                times++;
            }
            before = title;
        }
        return answer(times);
    }

    public int judge() {
        if (!isTold()) {
            return refuse(NONE_SUCH);
        }
        for (int i = 0; i < county.claims.count; i++) {
            if (!chronicle.claimIsSo(county, i)) {
                return answer(i);
            }
        }
        return answer(NOBODY);
    }

    public int ways() {
        if (!isTold()) {
            return refuse(NONE_SUCH);
        }
        return answer(chronicle.countWays(county));
    }

    public int wayAt(int i) {
        if (!isTold() || i < 0 || i >= chronicle.countWays(county)) {
            return refuse(NONE_SUCH);
        }
        return answer(chronicle.findWay(i));
    }

    public int longest(int u) {
        if (!isUmbrella(u)) {
            return refuse(NONE_SUCH);
        }
        int most = 0;
        int row = 0;
        int before = NOBODY;
        for (int day = 0; day < DAYS; day++) {
            int title = chronicle.behind(day).title[u];
            row = title == NOBODY ? 0 : title == before ? row + 1 : 1;
            before = title;
            most = Math.max(most, row);
        }
        return answer(most);
    }

    public int worstDay() {
        if (!isTold()) {
            return refuse(NONE_SUCH);
        }
        int worst = 0;
        int most = -1;
        for (int day = 0; day < DAYS; day++) {
            int lands = chronicle.behind(day).landsFor(county, NOBODY);
            if (lands > most) {
                most = lands;
                worst = day;
            }
        }
        return answer(worst);
    }

    // ---- from NOW

    public int owing(int p, int other) {
        if (!isPerson(p) || !isPerson(other) || p == other) {
            return refuse(NONE_SUCH);
        }
        int bits = 0;
        for (int u = 0; u < county.umbrellas; u++) {
            if (now.title[u] == p && now.holder[u] == other) {
                bits |= 1 << u;
            }
        }
        return answer(bits);
    }

    public int change(int p, boolean rain) {
        if (!isPerson(p)) {
            refuse(NONE_SUCH);
            return NO_CHANGE;
        }
        trial.copyFrom(now);
        trial.passDay(county, rain);
        return answer(trial.landsFor(county, p) - now.landsFor(county, p));
    }

    public int lapsesIn(int u) {
        if (!isUmbrella(u)) {
            return refuse(NONE_SUCH);
        }
        trial.copyFrom(now);
        for (int days = 0; days <= MOST_DRY; days++) {
            if (trial.title[u] == NOBODY) {
                return answer(days);
            }
            trial.passDay(county, false);
        }
        return answer(NOBODY);
    }

    public int guest(int people) {
        if (!arePeople(people)) {
            return refuse(NONE_SUCH);
        }
        int best = NOBODY;
        int least = 0;
        for (int p = 0; p < county.people; p++) {
            if ((people >> p & 1) == 1 || !seating.seat(county, now, people | 1 << p)) {
                continue;
            }
            if (best == NOBODY || seating.danger < least) {
                best = p;
                least = seating.danger;
            }
        }
        return answer(best);
    }

    // ---- put right

    public int putRight() {
        if (!isTold()) {
            return refuse(NONE_SUCH);
        }
        mendTrial();
        return answer(mending.right);
    }

    public int exchanges() {
        if (!isTold()) {
            return refuse(NONE_SUCH);
        }
        mendTrial();
        return answer(mending.length);
    }

    public int exchangeAt(int i) {
        if (!isTold() || i < 0 || i >= MOST_EXCHANGES) {
            return refuse(NONE_SUCH);
        }
        mendTrial();
        if (i >= mending.length) {
            return refuse(NONE_SUCH);
        }
        return answer(mending.best[i]);
    }

    // ---- a party

    public int party(int people) {
        if (!arePeople(people)) {
            return refuse(NONE_SUCH);
        }
        return answer(seating.seat(county, now, people) ? seating.danger : NOBODY);
    }

    public int partyOf(int people, int p) {
        if (!arePeople(people) || !isPerson(p)) {
            return refuse(NONE_SUCH);
        }
        if (!seating.seat(county, now, people)) {
            return refuse(THERE_IS_NONE);
        }
        return answer(seating.best[p]);
    }

    public int room(int people) {
        if (!arePeople(people)) {
            return refuse(NONE_SUCH);
        }
        return answer(seating.openUmbrellas(county, now, people));
    }

    // ---- gusts, lands, heirs

    public long whole(int u, int n, boolean lower) {
        if (!isUmbrella(u)) {
            return refuse(NONE_SUCH);
        }
        if (n < 0 || n > MOST_HOURS) {
            return refuse(BAD_NUMBER);
        }
        long upper = 1;
        long under = 1;
        for (int hour = 0; hour < n; hour++) {
            upper *= county.holdsOf100(u);
            under *= 100;
        }
        refusal = NOT_REFUSED;
        return inLowestTerms(upper, under, lower);
    }

    public long allWhole(int p, int n, boolean lower) {
        if (!isPerson(p)) {
            return refuse(NONE_SUCH);
        }
        if (n < 0 || n > 1) {
            return refuse(BAD_NUMBER);
        }
        long upper = 1;
        long under = 1;
        for (int u = 0; u < county.umbrellas; u++) {
            if (n == 1 && now.holder[u] == p) {
                upper *= county.holdsOf100(u);
                under *= 100;
            }
        }
        refusal = NOT_REFUSED;
        return inLowestTerms(upper, under, lower);
    }

    public int divided(int u, int many, int i) {
        if (!isUmbrella(u)) {
            return refuse(NONE_SUCH);
        }
        if (many < 1 || many > MOST_SHARES) {
            return refuse(BAD_NUMBER);
        }
        if (i < 0 || i >= many) {
            return refuse(NONE_SUCH);
        }
        int lands = county.lands[u];
        return answer(lands / many + (i < lands % many ? 1 : 0));
    }

    public int heirs(int lands, int one, int other, boolean ofOther) {
        if (!isTold()) {
            refuse(NONE_SUCH);
            return NO_HEIRS;
        }
        if (!isLand(lands) || !isClose(one) || !isClose(other)) {
            refuse(BAD_NUMBER);
            return NO_HEIRS;
        }
        return answer(ofOther ? inherits(lands, other, one) : inherits(lands, one, other));
    }

    public int rests(int lands) {
        if (!isTold()) {
            return refuse(NONE_SUCH);
        }
        if (!isLand(lands)) {
            return refuse(BAD_NUMBER);
        }
        int found = 0;
        for (int one = 0; one <= MOST_CLOSE; one++) {
            for (int other = 0; other <= MOST_CLOSE; other++) {
                found += isRest(lands, one, other) ? 1 : 0;
            }
        }
        return answer(found);
    }

    public int rest(int lands) {
        if (!isTold()) {
            return refuse(NONE_SUCH);
        }
        if (!isLand(lands)) {
            return refuse(BAD_NUMBER);
        }
        for (int one = 0; one <= MOST_CLOSE; one++) {
            for (int other = 0; other <= MOST_CLOSE; other++) {
                if (isRest(lands, one, other)) {
                    return answer(10 * one + other);
                }
            }
        }
        return answer(NOBODY);
    }

    public int most(int p) {
        if (!isPerson(p)) {
            return refuse(NONE_SUCH);
        }
        int best = 0;
        int lands = -1;
        for (int u = 0; u < county.umbrellas; u++) {
            int then = landsIfLent(u, p);
            if (then > lands) {
                lands = then;
                best = u;
            }
        }
        return answer(best);
    }

    public int mostLands(int p) {
        if (!isPerson(p)) {
            return refuse(NONE_SUCH);
        }
        int lands = 0;
        for (int u = 0; u < county.umbrellas; u++) {
            lands = Math.max(lands, landsIfLent(u, p));
        }
        return answer(lands);
    }

    // ---- centuries

    public int century(int p, int seed, int n) {
        if (!isPerson(p)) {
            return refuse(NONE_SUCH);
        }
        if (!isSeed(seed) || !areYears(n)) {
            return refuse(BAD_NUMBER);
        }
        tryCentury(seed, n);
        return answer(trial.landsFor(county, p));
    }

    public int untitled(int seed, int n) {
        if (!isTold()) {
            return refuse(NONE_SUCH);
        }
        if (!isSeed(seed) || !areYears(n)) {
            return refuse(BAD_NUMBER);
        }
        tryCentury(seed, n);
        int found = 0;
        for (int u = 0; u < county.umbrellas; u++) {
            found += trial.title[u] == NOBODY ? 1 : 0;
        }
        return answer(found);
    }

    // ---- acts

    public boolean lend(int u, int p) {
        if (!isUmbrella(u) || !isPerson(p)) {
            return deny(NONE_SUCH);
        }
        if (now.holder[u] == p) {
            return deny(NOT_SO);
        }
        keep();
        now.holder[u] = p;
        return grant();
    }

    public boolean leave(int u) {
        if (!isUmbrella(u)) {
            return deny(NONE_SUCH);
        }
        if (now.holder[u] == NOBODY) {
            return deny(NOT_SO);
        }
        keep();
        now.holder[u] = NOBODY;
        return grant();
    }

    public boolean exchange(int u, int v) {
        if (!isUmbrella(u) || !isUmbrella(v) || u == v) {
            return deny(NONE_SUCH);
        }
        if (now.holder[u] == now.holder[v]) {
            return deny(NOT_SO);
        }
        keep();
        now.swap(u, v);
        return grant();
    }

    public int day(boolean rain) {
        if (!isTold()) {
            return refuse(NONE_SUCH);
        }
        keep();
        trial.copyFrom(now);
        now.passDay(county, rain);
        int changed = 0;
        for (int u = 0; u < county.umbrellas; u++) {
            changed += now.title[u] != trial.title[u] ? 1 : 0;
        }
        return answer(changed);
    }

    public boolean undo() {
        if (keptCount <= 0) {
            return deny(THERE_IS_NONE);
        }
        keptCount--;
        now.unpack(kept[keptCount]);
        return grant();
    }

    public int mark() {
        if (!isTold()) {
            return refuse(NONE_SUCH);
        }
        if (markCount >= MOST_MARKS) {
            return refuse(NO_ROOM);
        }
        marks[markCount] = now.packed();
        markCount++;
        return answer(markCount - 1);
    }

    public boolean back(int mark) {
        if (mark < 0 || mark >= markCount) {
            return deny(NONE_SUCH);
        }
        now.unpack(marks[mark]);
        keptCount = 0;
        return grant();
    }

    // ---- what is told

    public int led(int i) throws NoSuchElementException {
        int ahead = 0;
        for (int u = 0; u < county.umbrellas; u++) {
            if (now.holder[u] == NOBODY) {
                if (ahead == i) {
                    return u;
                }
                ahead++;
            }
        }
        throw new NoSuchElementException("no such umbrella that nobody has");
    }

    public int size(int what) {
        switch (what) {
            case 0:
                return county.lapse;
            case 1:
                return county.gust;
            case 2:
                return county.rains;
            case 3:
                return county.people;
            case 4:
                return county.umbrellas;
            case 5:
                return county.log.count;
            case 6:
                return county.claims.count;
            case 7:
                return now.dry;
            case 8:
                return keptCount;
            case 9:
                return markCount;
            case 10:
                return reader.taped;
            default:
                return NONE;
        }
    }

    public int trouble() {
        return refusal;
    }

    // ---- answers and refusals

    private int answer(int value) {
        refusal = NOT_REFUSED;
        return value;
    }

    private int refuse(int why) {
        refusal = why;
        return NONE;
    }

    private boolean grant() {
        refusal = NOT_REFUSED;
        return true;
    }

    private boolean deny(int why) {
        refusal = why;
        return false;
    }

    // ---- what may be asked for

    private boolean isTold() {
        return county.umbrellas > 0;
    }

    private boolean isUmbrella(int u) {
        return u >= 0 && u < county.umbrellas;
    }

    private boolean isPerson(int p) {
        return p >= 0 && p < county.people;
    }

    private boolean arePeople(int bits) {
        return bits >= 1 && bits < 1 << county.people;
    }

    private static boolean isDay(int day) {
        return day >= 0 && day < DAYS;
    }

    private static boolean isLand(int lands) {
        return lands >= 0 && lands <= MOST_LANDS;
    }

    private static boolean isClose(int closeness) {
        return closeness >= 0 && closeness <= MOST_CLOSE;
    }

    private static boolean isSeed(int seed) {
        return seed >= 0 && seed < SEEDS;
    }

    private static boolean areYears(int n) {
        return n >= 0 && n <= MOST_YEARS;
    }

    // ---- what the calls share

    /** Keeps NOW for an undo; the oldest goes where there are too many. */
    private void keep() {
        if (keptCount >= MOST_KEPT) {
            System.arraycopy(kept, 1, kept, 0, MOST_KEPT - 1);
            keptCount = MOST_KEPT - 1;
        }
        kept[keptCount] = now.packed();
        keptCount++;
    }

    private void mendTrial() {
        trial.copyFrom(now);
        mending.search(county, trial);
    }

    private int landsIfLent(int u, int p) {
        trial.copyFrom(now);
        trial.holder[u] = p;
        trial.passDay(county, true);
        return trial.landsFor(county, p);
    }

    private void tryCentury(int seed, int n) {
        trial.copyFrom(now);
        if (county.umbrellas <= 0 || county.people <= 0) {
            return;
        }
        int drawn = seed;
        for (int year = 0; year < n; year++) {
            drawn = nextSeed(drawn);
            int u = drawn % county.umbrellas;
            drawn = nextSeed(drawn);
            trial.holder[u] = drawn % county.people;
            drawn = nextSeed(drawn);
            trial.passDay(county, drawn % 100 < county.rains);
        }
    }

    private static int nextSeed(int seed) {
        return (75 * seed + 74) % SEEDS;
    }

    private static int inherits(int lands, int own, int others) {
        int share = own > others ? lands : own == others ? lands / 2 : 0;
        return share - 2 * own;
    }

    private static boolean isRest(int lands, int one, int other) {
        int ofOne = inherits(lands, one, other);
        int ofOther = inherits(lands, other, one);
        for (int instead = 0; instead <= MOST_CLOSE; instead++) {
            if (inherits(lands, instead, other) > ofOne || inherits(lands, instead, one) > ofOther) {
                return false;
            }
        }
        return true;
    }

    private static long inLowestTerms(long upper, long under, boolean lower) {
        long divisor = under;
        long left = upper;
        // Euclid's steps for numbers up to 10 to the 12th stay far below this bound.
        for (int step = 0; step < 1000 && left != 0; step++) {
            long remainder = divisor % left;
            divisor = left;
            left = remainder;
        }
        long wanted = lower ? under : upper;
        return divisor == 0 ? wanted : wanted / divisor;
    }

    /** Lines that bear a day, in the order in which they are told. */
    private static final class Dated {
        int count = 0;
        final int[] what;
        final int[] one;
        final int[] other;
        final int[] day;

        Dated(int most) {
            int room = Math.max(most, 0);
            what = new int[room];
            one = new int[room];
            other = new int[room];
            day = new int[room];
        }

        boolean isFull() {
            return count >= day.length;
        }

        void add(int ofWhat, int first, int second, int onDay) {
            if (isFull()) {
                return;
            }
            what[count] = ofWhat;
            one[count] = first;
            other[count] = second;
            day[count] = onDay;
            count++;
        }
    }

    /** What is told of a county; without umbrellas it isn't told. */
    private static final class County {
        int lapse = 0;
        int gust = 0;
        int rains = 0;
        int people = 0;
        int umbrellas = 0;
        final int[] sort = new int[MOST_PEOPLE];
        final int[] kind = new int[MOST_UMBRELLAS];
        final int[] lands = new int[MOST_UMBRELLAS];
        final int[] ribs = new int[MOST_UMBRELLAS];
        final int[] firstHolder = new int[MOST_UMBRELLAS];
        final Dated log = new Dated(MOST_LOGGED);
        final Dated claims = new Dated(MOST_CLAIMS);

        void clear() {
            lapse = 0;
            gust = 0;
            rains = 0;
            people = 0;
            umbrellas = 0;
            log.count = 0;
            claims.count = 0;
        }

        boolean areAlike(int u, int v) {
            return kind[u] == kind[v] && ribs[u] == ribs[v];
        }

        /** In how many of 100 hours no gust breaks it. */
        int holdsOf100(int u) {
            return 100 - (kind[u] == SILK ? gust / 2 : gust);
        }
    }

    /** Who has which umbrella, whose title it is, and how many DRY days went by in a row. */
    private static final class Holding {
        final int[] holder = new int[MOST_UMBRELLAS];
        final int[] title = new int[MOST_UMBRELLAS];
        int dry = 0;

        void begin(County county) {
            dry = 0;
            for (int u = 0; u < MOST_UMBRELLAS; u++) {
                holder[u] = u < county.umbrellas ? county.firstHolder[u] : NOBODY;
                title[u] = NOBODY;
                if (u < county.umbrellas && county.kind[u] != STICK) {
                    takeTitle(county, u);
                }
            }
        }

        void copyFrom(Holding from) {
            for (int u = 0; u < MOST_UMBRELLAS; u++) {
                holder[u] = from.holder[u];
                title[u] = from.title[u];
            }
            dry = from.dry;
        }

        /** All of it as one number, so that states kept for later need no objects: three bits a name. */
        long packed() {
            long bits = dry;
            for (int u = 0; u < MOST_UMBRELLAS; u++) {
                bits = bits << 6 | (holder[u] - NOBODY) << 3 | title[u] - NOBODY;
            }
            return bits;
        }

        void unpack(long packed) {
            long bits = packed;
            for (int u = MOST_UMBRELLAS - 1; u >= 0; u--) {
                title[u] = (int) (bits & 7) + NOBODY;
                holder[u] = (int) (bits >> 3 & 7) + NOBODY;
                bits >>= 6;
            }
            dry = (int) bits;
        }

        void swap(int u, int v) {
            int first = holder[u];
            holder[u] = holder[v];
            holder[v] = first;
        }

        void happen(int what, int one, int other) {
            if (what == LENT) {
                holder[one] = other;
            } else if (what == LEFT) {
                holder[one] = NOBODY;
            } else if (what == CHANGED) {
                swap(one, other);
            }
        }

        void passDay(County county, boolean rain) {
            for (int u = 0; u < county.umbrellas; u++) {
                int kind = county.kind[u];
                if (kind != STICK && (kind == PARASOL) != rain) {
                    takeTitle(county, u);
                }
            }
            dry = rain ? 0 : Math.min(dry + 1, MOST_DRY);
            if (!rain && dry >= county.lapse) {
                lapse(county);
            }
            for (int p = 0; p < county.people; p++) {
                if (county.sort[p] == CARELESS) {
                    forgetOne(county, p);
                }
            }
        }

        private void takeTitle(County county, int u) {
            int p = holder[u];
            if (p >= 0 && county.sort[p] != CHILD) {
                title[u] = p;
            }
        }

        private void lapse(County county) {
            for (int u = 0; u < county.umbrellas; u++) {
                if (county.kind[u] != SILK) {
                    title[u] = NOBODY;
                }
            }
        }

        private void forgetOne(County county, int p) {
            int held = 0;
            int least = NONE;
            for (int u = 0; u < county.umbrellas; u++) {
                if (holder[u] == p) {
                    held++;
                    least = least == NONE || county.lands[u] < county.lands[least] ? u : least;
                }
            }
            if (held > 1 && least >= 0) {
                holder[least] = NOBODY;
            }
        }

        int heldBy(County county, int p) {
            int bits = 0;
            for (int u = 0; u < county.umbrellas; u++) {
                bits |= holder[u] == p ? 1 << u : 0;
            }
            return bits;
        }

        int landsFor(County county, int p) {
            int lands = 0;
            for (int u = 0; u < county.umbrellas; u++) {
                lands += title[u] == p ? county.lands[u] : 0;
            }
            return lands;
        }

        int rightOnes(County county) {
            int bits = 0;
            for (int u = 0; u < county.umbrellas; u++) {
                bits |= title[u] != NOBODY && title[u] == holder[u] ? 1 << u : 0;
            }
            return bits;
        }
    }

    /** What the log brings, day by day, and what unseen change would make all claims so. */
    private static final class Chronicle {
        private static final int PAIRS = MOST_UMBRELLAS * MOST_UMBRELLAS;

        /** The state ahead of each day; the last one is that behind day 40. */
        final long[] mornings = new long[DAYS + 1];
        /** For each day the pairs u * 5 + v, as bits, by whose change all claims are so. */
        final int[] unseen = new int[DAYS];
        final Holding then = new Holding();
        boolean searched = false;
        boolean asTold = false;
        int lastClaim = NONE;

        void begin(County county) {
            searched = false;
            then.begin(county);
            for (int day = 0; day < DAYS; day++) {
                mornings[day] = then.packed();
                runDay(county, day);
            }
            mornings[DAYS] = then.packed();
        }

        Holding atFirst() {
            then.unpack(mornings[0]);
            return then;
        }

        Holding behind(int day) {
            then.unpack(mornings[day + 1]);
            return then;
        }

        boolean claimIsSo(County county, int i) {
            Dated claims = county.claims;
            return behind(claims.day[i]).title[claims.one[i]] == claims.other[i];
        }

        int countWays(County county) {
            search(county);
            int found = asTold ? 1 : 0;
            for (int day = 0; day < DAYS; day++) {
                found += Integer.bitCount(unseen[day]);
            }
            return found;
        }

        int findWay(int i) {
            int ahead = asTold ? 1 : 0;
            if (i < ahead) {
                return NOBODY;
            }
            for (int day = 0; day < DAYS; day++) {
                for (int pair = 0; pair < PAIRS; pair++) {
                    if ((unseen[day] >> pair & 1) == 0) {
                        continue;
                    }
                    if (ahead == i) {
                        return 100 * day + 10 * (pair / MOST_UMBRELLAS) + pair % MOST_UMBRELLAS;
                    }
                    ahead++;
                }
            }
            return NONE;
        }

        private void search(County county) {
            if (searched) {
                return;
            }
            searched = true;
            int firstWrong = DAYS;
            lastClaim = NONE;
            for (int i = 0; i < county.claims.count; i++) {
                int day = county.claims.day[i];
                lastClaim = Math.max(lastClaim, day);
                firstWrong = claimIsSo(county, i) ? firstWrong : Math.min(firstWrong, day);
            }
            asTold = firstWrong == DAYS;
            for (int day = 0; day < DAYS; day++) {
                unseen[day] = 0;
                // A change can't mend a claim of a day ahead of it.
                for (int pair = 0; pair < PAIRS && day <= firstWrong; pair++) {
                    unseen[day] |= fits(county, day, pair) ? 1 << pair : 0;
                }
            }
        }

        private boolean fits(County county, int day, int pair) {
            int u = pair / MOST_UMBRELLAS;
            int v = pair % MOST_UMBRELLAS;
            if (u >= v || v >= county.umbrellas || !county.areAlike(u, v)) {
                return false;
            }
            then.unpack(mornings[day]);
            if (then.holder[u] == then.holder[v]) {
                return asTold;
            }
            then.swap(u, v);
            for (int later = day; later <= lastClaim && later < DAYS; later++) {
                runDay(county, later);
                if (!claimsOfDayAreSo(county, later)) {
                    return false;
                }
            }
            return true;
        }

        private void runDay(County county, int day) {
            Dated log = county.log;
            boolean rain = false;
            for (int i = 0; i < log.count; i++) {
                if (log.day[i] == day) {
                    then.happen(log.what[i], log.one[i], log.other[i]);
                    rain = rain || log.what[i] == RAIN;
                }
            }
            then.passDay(county, rain);
        }

        private boolean claimsOfDayAreSo(County county, int day) {
            Dated claims = county.claims;
            for (int i = 0; i < claims.count; i++) {
                if (claims.day[i] == day && then.title[claims.one[i]] != claims.other[i]) {
                    return false;
                }
            }
            return true;
        }
    }

    /** Who stands under which umbrella by the BEST PARTY. */
    private static final class Seating {
        final int[] places = new int[MOST_UMBRELLAS];
        final int[] standing = new int[MOST_PEOPLE];
        final int[] best = new int[MOST_PEOPLE];
        final int[] least = new int[MOST_PEOPLE + 1];
        boolean found = false;
        int danger = 0;

        /** Whether there is room; danger and best tell how then. */
        boolean seat(County county, Holding now, int people) {
            found = false;
            danger = 0;
            if (openUmbrellas(county, now, people) >= Integer.bitCount(people)) {
                countLeast(county, now, people);
                place(county, now, people, 0, 0);
            }
            return found;
        }

        /** What those from each on must bring at least, if all found a place where they like it best. */
        private void countLeast(County county, Holding now, int people) {
            least[MOST_PEOPLE] = 0;
            for (int p = MOST_PEOPLE - 1; p >= 0; p--) {
                int lowest = NONE;
                for (int u = 0; u < county.umbrellas && (people >> p & 1) == 1; u++) {
                    int more = dangerOf(county, now, p, u);
                    lowest = places[u] > 0 && (lowest == NONE || more < lowest) ? more : lowest;
                }
                least[p] = least[p + 1] + Math.max(lowest, 0);
            }
        }

        private static int dangerOf(County county, Holding now, int p, int u) {
            return now.title[u] == p ? 0 : county.lands[u];
        }

        /** How many there is room for. */
        int openUmbrellas(County county, Holding now, int people) {
            int all = 0;
            for (int u = 0; u < county.umbrellas; u++) {
                int p = now.holder[u];
                places[u] = p >= 0 && (people >> p & 1) == 1 ? county.ribs[u] / 4 : 0;
                all += places[u];
            }
            return all;
        }

        /** Goes through all ways in the order of the people's umbrellas, so that the first of like ones stays. */
        private void place(County county, Holding now, int people, int p, int soFar) {
            if (p >= county.people || p >= MOST_PEOPLE) {
                found = true;
                danger = soFar;
                System.arraycopy(standing, 0, best, 0, MOST_PEOPLE);
                return;
            }
            boolean comes = (people >> p & 1) == 1;
            if (!comes) {
                standing[p] = NOBODY;
                place(county, now, people, p + 1, soFar);
            }
            for (int u = 0; u < county.umbrellas && comes; u++) {
                int then = soFar + dangerOf(county, now, p, u);
                // Only less danger than the best yet: of like ones the first stays.
                if (places[u] > 0 && (!found || then + least[p + 1] < danger)) {
                    places[u]--;
                    standing[p] = u;
                    place(county, now, people, p + 1, then);
                    places[u]++;
                }
            }
        }
    }

    /** The row of EXCHANGES that puts most right. */
    private static final class Mending {
        final int[] row = new int[MOST_EXCHANGES];
        final int[] best = new int[MOST_EXCHANGES];
        int length = 0;
        int right = 0;

        void search(County county, Holding holding) {
            length = 0;
            right = Integer.bitCount(holding.rightOnes(county));
            for (int many = 1; many <= MOST_EXCHANGES; many++) {
                extend(county, holding, 0, many);
            }
        }

        /** Goes through all rows of one length in their order, and leaves the holding as it was. */
        private void extend(County county, Holding holding, int depth, int many) {
            int already = Integer.bitCount(holding.rightOnes(county));
            // An EXCHANGE puts no more than two right: what can't become better isn't gone through.
            if (already + 2 * (many - depth) <= right) {
                return;
            }
            if (depth >= many || depth >= MOST_EXCHANGES) {
                right = already;
                length = many;
                System.arraycopy(row, 0, best, 0, MOST_EXCHANGES);
                return;
            }
            for (int u = 0; u < county.umbrellas; u++) {
                for (int v = u + 1; v < county.umbrellas; v++) {
                    if (holding.holder[u] != holding.holder[v]) {
                        row[depth] = 10 * u + v;
                        holding.swap(u, v);
                        extend(county, holding, depth + 1, many);
                        holding.swap(u, v);
                    }
                }
            }
        }
    }

    /** Reads the text of a county from the left up to its first fault. */
    private static final class Reader {
        private static final String HEADS = "county person umbrella lent left changed rain claims";
        private static final String SORTS = "plain child careless";
        private static final String KINDS = "silk cotton stick parasol";

        private static final int HEAD_COUNTY = 0;
        private static final int HEAD_PERSON = 1;
        private static final int HEAD_UMBRELLA = 2;
        private static final int HEAD_LENT = 3;
        private static final int HEAD_CLAIMS = 7;

        private static final int END = 0;
        private static final int WORD = 1;
        private static final int WHOLE = 2;
        private static final int SEMICOLON = 3;
        private static final int NO_TOKEN = 4;

        private static final int LONGEST_WORD = 8;
        private static final int LONGEST_WHOLE = 2;

        private static final int FORM = 1;
        private static final int NOT_TOLD = 2;
        private static final int AGAIN = 3;
        private static final int OUT_OF_BOUNDS = 4;
        private static final int MANY = 5;
        private static final int LACKS = 6;

        int fault = 0;
        /** The place of the TOKEN that is looked at: behind a fault, the fault's place. */
        int start = 0;
        /** How many bytes THE TAPE has. */
        int taped = 0;
        private final byte[] tape = new byte[MOST_BYTES];
        private int length = 0;
        private int next = 0;
        private int token = END;
        /** Of a WHOLE its number, of a WORD its letters by base 27: each WORD has its own. */
        private long value = 0;
        /** What the latest part that was read without a fault told. */
        private int got = 0;
        private boolean countyTold = false;
        private County county = new County();
        private final long[] personNames = new long[MOST_PEOPLE];
        private final long[] umbrellaNames = new long[MOST_UMBRELLAS];

        /** Four bytes come behind the tape, the highest first. */
        void putNumber(int number) {
            for (int shift = 24; shift >= 0 && taped < MOST_BYTES; shift -= 8) {
                tape[taped] = (byte) (number >> shift);
                taped++;
            }
        }

        /** Reads the first bytes of the tape, which is empty then; whether they are a county without a fault. */
        boolean read(int many) {
            fault = 0;
            length = Math.min(many, taped);
            taped = 0;
            next = 0;
            countyTold = false;
            county.clear();
            readToken();
            boolean fine = readLine();
            for (int lines = 0; lines < length && fine && token == SEMICOLON; lines++) {
                readToken();
                fine = readLine();
            }
            if (!fine) {
                return false;
            }
            if (token != END) {
                return fail(FORM);
            }
            return county.people > 0 && county.umbrellas > 0 || fail(LACKS);
        }

        /** Gives the county that was read, and takes an old one to read the next into. */
        County exchangeFor(County old) {
            County told = county;
            county = old;
            return told;
        }

        private boolean fail(int number) {
            fault = number;
            return false;
        }

        // -- tokens

        private void readToken() {
            while (next < length && tape[next] == ' ') {
                next++;
            }
            start = next;
            value = 0;
            token = next < length ? tokenBegunBy(tape[next]) : END;
            if (token == SEMICOLON) {
                next++;
            } else if (token == WORD) {
                readRun(27, 'a' - 1, LONGEST_WORD);
            } else if (token == WHOLE) {
                readRun(10, '0', LONGEST_WHOLE);
            }
        }

        /** All letters, or digits, that stand together: if they are too many, they are no TOKEN. */
        private void readRun(int base, int zero, int longest) {
            while (next < length && tokenBegunBy(tape[next]) == token) {
                value = value * base + (tape[next] - zero);
                next++;
            }
            token = next - start <= longest ? token : NO_TOKEN;
        }

        private static int tokenBegunBy(byte sign) {
            if (sign >= 'a' && sign <= 'z') {
                return WORD;
            }
            if (sign >= '0' && sign <= '9') {
                return WHOLE;
            }
            return sign == ';' ? SEMICOLON : NO_TOKEN;
        }

        /** Which of the words, parted by blanks, the TOKEN is; NONE if it is none. */
        private int indexAmong(String words) {
            if (token != WORD) {
                return NONE;
            }
            int index = 0;
            long letters = 0;
            for (int i = 0; i <= words.length(); i++) {
                char sign = i < words.length() ? words.charAt(i) : ' ';
                if (sign != ' ') {
                    letters = letters * 27 + (sign - 'a' + 1);
                } else if (letters == value) {
                    return index;
                } else {
                    index++;
                    letters = 0;
                }
            }
            return NONE;
        }

        // -- parts of a line

        private boolean readOneOf(String words) {
            got = indexAmong(words);
            if (got == NONE) {
                return fail(FORM);
            }
            readToken();
            return true;
        }

        /** A WORD and the WHOLE behind it. */
        private boolean readNumber(String word, int least, int most) {
            if (indexAmong(word) == NONE) {
                return fail(FORM);
            }
            readToken();
            if (token != WHOLE) {
                return fail(FORM);
            }
            if (value < least || value > most) {
                return fail(OUT_OF_BOUNDS);
            }
            got = (int) value;
            readToken();
            return true;
        }

        private boolean isName() {
            return token == WORD && indexAmong(HEADS) == NONE;
        }

        private int indexOfPerson() {
            for (int p = 0; p < county.people; p++) {
                if (personNames[p] == value) {
                    return p;
                }
            }
            return NONE;
        }

        private int indexOfUmbrella() {
            for (int u = 0; u < county.umbrellas; u++) {
                if (umbrellaNames[u] == value) {
                    return u;
                }
            }
            return NONE;
        }

        private boolean readNewName() {
            if (!isName()) {
                return fail(FORM);
            }
            if (indexOfPerson() != NONE || indexOfUmbrella() != NONE) {
                return fail(AGAIN);
            }
            readToken();
            return true;
        }

        /** A NAME that must be told already; its index among those of the sort that must stand there. */
        private boolean readTold(int index) {
            if (!isName()) {
                return fail(FORM);
            }
            if (index == NONE) {
                return fail(NOT_TOLD);
            }
            got = index;
            readToken();
            return true;
        }

        // -- lines

        private boolean readLine() {
            int head = indexAmong(HEADS);
            if (head == NONE) {
                return fail(FORM);
            }
            if (head == HEAD_COUNTY) {
                return readCountyLine();
            }
            if (!countyTold) {
                return fail(LACKS);
            }
            if (head == HEAD_PERSON) {
                return readPersonLine();
            }
            if (head == HEAD_UMBRELLA) {
                return readUmbrellaLine();
            }
            return head == HEAD_CLAIMS ? readClaimLine() : readLogLine(head - HEAD_LENT);
        }

        private boolean readCountyLine() {
            if (countyTold) {
                return fail(AGAIN);
            }
            countyTold = true;
            readToken();
            if (!readNumber("lapse", 1, MOST_DRY)) {
                return false;
            }
            county.lapse = got;
            if (!readNumber("gust", 0, 99)) {
                return false;
            }
            county.gust = got;
            if (!readNumber("rains", 0, 99)) {
                return false;
            }
            county.rains = got;
            return true;
        }

        private boolean readPersonLine() {
            int p = county.people;
            if (p >= MOST_PEOPLE) {
                return fail(MANY);
            }
            readToken();
            personNames[p] = value;
            if (!readNewName() || !readOneOf(SORTS)) {
                return false;
            }
            county.sort[p] = got;
            county.people = p + 1;
            return true;
        }

        private boolean readUmbrellaLine() {
            int u = county.umbrellas;
            if (u >= MOST_UMBRELLAS) {
                return fail(MANY);
            }
            readToken();
            umbrellaNames[u] = value;
            if (!readNewName() || !readOneOf(KINDS)) {
                return false;
            }
            county.kind[u] = got;
            if (!readNumber("lands", 0, MOST_LANDS)) {
                return false;
            }
            county.lands[u] = got;
            if (!readNumber("ribs", 4, 12)) {
                return false;
            }
            county.ribs[u] = got;
            county.firstHolder[u] = NOBODY;
            if (indexAmong("with") != NONE) {
                readToken();
                if (!readTold(indexOfPerson())) {
                    return false;
                }
                county.firstHolder[u] = got;
            }
            county.umbrellas = u + 1;
            return true;
        }

        private boolean readLogLine(int what) {
            if (county.log.isFull()) {
                return fail(MANY);
            }
            readToken();
            int one = NONE;
            int other = NONE;
            if (what != RAIN) {
                if (!readTold(indexOfUmbrella())) {
                    return false;
                }
                one = got;
            }
            if (what == LENT || what == CHANGED) {
                if (what == CHANGED && isName() && indexOfUmbrella() == one) {
                    return fail(AGAIN);
                }
                if (!readTold(what == LENT ? indexOfPerson() : indexOfUmbrella())) {
                    return false;
                }
                other = got;
            }
            int latest = county.log.count == 0 ? 0 : county.log.day[county.log.count - 1];
            if (!readNumber("day", latest, DAYS - 1)) {
                return false;
            }
            county.log.add(what, one, other, got);
            return true;
        }

        private boolean readClaimLine() {
            if (county.claims.isFull()) {
                return fail(MANY);
            }
            readToken();
            if (!readTold(indexOfPerson())) {
                return false;
            }
            int claimant = got;
            if (!readTold(indexOfUmbrella())) {
                return false;
            }
            int claimed = got;
            if (!readNumber("day", 0, DAYS - 1)) {
                return false;
            }
            county.claims.add(0, claimed, claimant, got);
            return true;
        }
    }
}
