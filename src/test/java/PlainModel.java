import java.util.ArrayDeque;
import java.util.ArrayList;
import java.util.Deque;
import java.util.HashMap;
import java.util.List;
import java.util.Map;
import java.util.NoSuchElementException;

/** The document's answers in the slowest and plainest way: every question is worked out anew from the text. */
final class PlainModel {
    private static final List<String> HEADS = List.of("county", "person", "umbrella", "lent", "left", "changed", "rain", "claims");
    private static final List<String> SORTS = List.of("plain", "child", "careless");
    private static final List<String> KINDS = List.of("silk", "cotton", "stick", "parasol");

    private record Token(String text, int at) {
        boolean isWord() {
            return text.matches("[a-z]{1,8}");
        }

        boolean isWhole() {
            return text.matches("[0-9]{1,2}");
        }
    }

    private record Umbrella(int kind, int lands, int ribs, int first) {
    }

    private record Event(String what, int one, int other, int day) {
    }

    private record State(List<Integer> has, List<Integer> title, int dry) {
    }

    /** What a text tells; faults are gathered as place times ten and number. */
    private static final class Told {
        int lapse;
        int gust;
        int rains;
        final List<Integer> people = new ArrayList<>();
        final List<Umbrella> umbrellas = new ArrayList<>();
        final List<Event> log = new ArrayList<>();
        final List<Event> claims = new ArrayList<>();
        final List<Integer> faults = new ArrayList<>();
    }

    private StringBuilder tape = new StringBuilder();
    private Told told = new Told();
    private State now = new State(List.of(), List.of(), 0);
    private final Deque<State> kept = new ArrayDeque<>();
    private final List<State> marks = new ArrayList<>();
    private int fault = 0;
    private int place = 0;
    private int trouble = 0;

    // ---- the text

    int feed(int a, int b, int c, int d, int e) {
        if (tape.length() > 980) {
            return -1;
        }
        for (int number : new int[] {a, b, c, d, e}) {
            for (int i = 3; i >= 0; i--) {
                tape.append((char) (number >>> 8 * i & 255));
            }
        }
        return tape.length();
    }

    int county(int n) {
        if (n < 0 || n > tape.length()) {
            return no(2);
        }
        Told next = parse(tape.substring(0, n));
        tape = new StringBuilder();
        fault = 0;
        if (!next.faults.isEmpty()) {
            int first = next.faults.stream().min(Integer::compare).get();
            fault = first % 10;
            place = first / 10;
            return no(4);
        }
        told = next;
        now = start();
        kept.clear();
        marks.clear();
        return yes(told.umbrellas.size());
    }

    private static List<Token> tokens(String text) {
        List<Token> found = new ArrayList<>();
        java.util.regex.Matcher m = java.util.regex.Pattern.compile("[a-z]+|[0-9]+|[^ ]", java.util.regex.Pattern.DOTALL).matcher(text);
        while (m.find()) {
            found.add(new Token(m.group(), m.start()));
        }
        found.add(new Token("", text.length()));
        return found;
    }

    /** A cursor over the tokens that notes faults and goes on, but for FORM, which ends it. */
    private static final class Stop extends Exception {
        private static final long serialVersionUID = 1;
    }

    private static Told parse(String text) {
        Told next = new Told();
        List<Token> tokens = tokens(text);
        int[] at = {0};
        Map<String, Integer> people = new HashMap<>();
        Map<String, Integer> umbrellas = new HashMap<>();
        boolean county = false;
        try {
            while (true) {
                Token head = tokens.get(at[0]);
                word(next, tokens, at, HEADS);
                if (head.text.equals("county") && county) {
                    next.faults.add(head.at * 10 + 3);
                }
                if (!head.text.equals("county") && !county) {
                    next.faults.add(head.at * 10 + 6);
                }
                county |= head.text.equals("county");
                line(next, head, tokens, at, people, umbrellas);
                Token behind = tokens.get(at[0]);
                if (behind.text.isEmpty()) {
                    if (next.people.isEmpty() || next.umbrellas.isEmpty()) {
                        next.faults.add(behind.at * 10 + 6);
                    }
                    return next;
                }
                word(next, tokens, at, List.of(";"));
            }
        } catch (Stop e) {
            return next;
        }
    }

    private static void line(Told next, Token head, List<Token> tokens, int[] at,
            Map<String, Integer> people, Map<String, Integer> umbrellas) throws Stop {
        switch (head.text) {
            case "county" -> {
                word(next, tokens, at, List.of("lapse"));
                next.lapse = number(next, tokens, at, 1, 30);
                word(next, tokens, at, List.of("gust"));
                next.gust = number(next, tokens, at, 0, 99);
                word(next, tokens, at, List.of("rains"));
                next.rains = number(next, tokens, at, 0, 99);
            }
            case "person" -> {
                room(next, head, next.people.size(), 6);
                String name = fresh(next, tokens, at, people, umbrellas);
                people.putIfAbsent(name, people.size());
                next.people.add(word(next, tokens, at, SORTS));
            }
            case "umbrella" -> {
                room(next, head, next.umbrellas.size(), 5);
                String name = fresh(next, tokens, at, people, umbrellas);
                int kind = word(next, tokens, at, KINDS);
                word(next, tokens, at, List.of("lands"));
                int lands = number(next, tokens, at, 0, 99);
                word(next, tokens, at, List.of("ribs"));
                int ribs = number(next, tokens, at, 4, 12);
                int first = -2;
                if (tokens.get(at[0]).text.equals("with")) {
                    at[0]++;
                    first = known(next, tokens, at, people);
                }
                umbrellas.putIfAbsent(name, umbrellas.size());
                next.umbrellas.add(new Umbrella(kind, lands, ribs, first));
            }
            case "claims" -> {
                room(next, head, next.claims.size(), 6);
                int who = known(next, tokens, at, people);
                int which = known(next, tokens, at, umbrellas);
                word(next, tokens, at, List.of("day"));
                next.claims.add(new Event("claims", which, who, number(next, tokens, at, 0, 40)));
            }
            default -> logLine(next, head, tokens, at, people, umbrellas);
        }
    }

    private static void logLine(Told next, Token head, List<Token> tokens, int[] at,
            Map<String, Integer> people, Map<String, Integer> umbrellas) throws Stop {
        room(next, head, next.log.size(), 16);
        int one = -1;
        int other = -1;
        if (!head.text.equals("rain")) {
            one = known(next, tokens, at, umbrellas);
        }
        if (head.text.equals("lent")) {
            other = known(next, tokens, at, people);
        }
        if (head.text.equals("changed")) {
            Token second = tokens.get(at[0]);
            other = known(next, tokens, at, umbrellas);
            if (one >= 0 && other == one) {
                next.faults.add(second.at * 10 + 3);
            }
        }
        word(next, tokens, at, List.of("day"));
        int least = next.log.isEmpty() ? 0 : next.log.get(next.log.size() - 1).day();
        next.log.add(new Event(head.text, one, other, number(next, tokens, at, least, 40)));
    }

    private static void room(Told next, Token head, int have, int most) {
        if (have >= most) {
            next.faults.add(head.at * 10 + 5);
        }
    }

    private static int word(Told next, List<Token> tokens, int[] at, List<String> words) throws Stop {
        Token token = tokens.get(at[0]++);
        if (!words.contains(token.text)) {
            next.faults.add(token.at * 10 + 1);
            throw new Stop();
        }
        return words.indexOf(token.text);
    }

    private static int number(Told next, List<Token> tokens, int[] at, int least, int most) throws Stop {
        Token token = tokens.get(at[0]++);
        if (!token.isWhole()) {
            next.faults.add(token.at * 10 + 1);
            throw new Stop();
        }
        int value = Integer.parseInt(token.text);
        if (value < least || value > most) {
            next.faults.add(token.at * 10 + 4);
        }
        return value;
    }

    private static Token name(Told next, List<Token> tokens, int[] at) throws Stop {
        Token token = tokens.get(at[0]++);
        if (!token.isWord() || HEADS.contains(token.text)) {
            next.faults.add(token.at * 10 + 1);
            throw new Stop();
        }
        return token;
    }

    private static String fresh(Told next, List<Token> tokens, int[] at,
            Map<String, Integer> people, Map<String, Integer> umbrellas) throws Stop {
        Token token = name(next, tokens, at);
        if (people.containsKey(token.text) || umbrellas.containsKey(token.text)) {
            next.faults.add(token.at * 10 + 3);
        }
        return token.text;
    }

    private static int known(Told next, List<Token> tokens, int[] at, Map<String, Integer> names) throws Stop {
        Token token = name(next, tokens, at);
        if (!names.containsKey(token.text)) {
            next.faults.add(token.at * 10 + 2);
            return -1;
        }
        return names.get(token.text);
    }

    // ---- days

    private State start() {
        List<Integer> has = new ArrayList<>();
        List<Integer> title = new ArrayList<>();
        for (Umbrella umbrella : told.umbrellas) {
            has.add(umbrella.first);
            boolean none = umbrella.kind == 2 || umbrella.first < 0 || told.people.get(umbrella.first) == 1;
            title.add(none ? -2 : umbrella.first);
        }
        return new State(has, title, 0);
    }

    private static State held(State state, int u, int p) {
        List<Integer> has = new ArrayList<>(state.has);
        has.set(u, p);
        return new State(has, state.title, state.dry);
    }

    private static State swapped(State state, int u, int v) {
        return held(held(state, u, state.has.get(v)), v, state.has.get(u));
    }

    private State next(State state, boolean rain) {
        List<Integer> title = new ArrayList<>(state.title);
        List<Integer> has = new ArrayList<>(state.has);
        int dry = rain ? 0 : state.dry + 1;
        for (int u = 0; u < has.size(); u++) {
            int kind = told.umbrellas.get(u).kind;
            boolean takes = rain ? kind == 0 || kind == 1 : kind == 3;
            if (takes && has.get(u) >= 0 && told.people.get(has.get(u)) != 1) {
                title.set(u, has.get(u));
            }
            if (dry >= told.lapse && kind != 0) {
                title.set(u, -2);
            }
        }
        for (int p = 0; p < told.people.size(); p++) {
            int least = -1;
            int many = 0;
            for (int u = has.size() - 1; u >= 0; u--) {
                if (has.get(u) == p) {
                    many++;
                    if (least < 0 || told.umbrellas.get(u).lands <= told.umbrellas.get(least).lands) {
                        least = u;
                    }
                }
            }
            if (told.people.get(p) == 2 && many > 1) {
                has.set(least, -2);
            }
        }
        return new State(has, title, dry);
    }

    /** The state behind a day by the log, with a change of two ahead of a day, or none (changeDay -1). */
    private State behind(int day, int changeDay, int u, int v) {
        State state = start();
        for (int d = 0; d <= day; d++) {
            if (d == changeDay) {
                state = swapped(state, u, v);
            }
            boolean rain = false;
            for (Event event : told.log) {
                if (event.day != d) {
                    continue;
                }
                switch (event.what) {
                    case "lent" -> state = held(state, event.one, event.other);
                    case "left" -> state = held(state, event.one, -2);
                    case "changed" -> state = swapped(state, event.one, event.other);
                    default -> rain = true;
                }
            }
            state = next(state, rain);
        }
        return state;
    }

    private int lands(State state, int p) {
        int sum = 0;
        for (int u = 0; u < told.umbrellas.size(); u++) {
            sum += state.title.get(u) == p ? told.umbrellas.get(u).lands : 0;
        }
        return sum;
    }

    private boolean allSo(int changeDay, int u, int v) {
        for (Event claim : told.claims) {
            if (behind(claim.day, changeDay, u, v).title.get(claim.one) != claim.other) {
                return false;
            }
        }
        return true;
    }

    private boolean like(int u, int v) {
        return told.umbrellas.get(u).kind == told.umbrellas.get(v).kind && told.umbrellas.get(u).ribs == told.umbrellas.get(v).ribs;
    }

    private List<Integer> unseen() {
        List<Integer> found = new ArrayList<>();
        if (allSo(-1, 0, 0)) {
            found.add(-2);
        }
        for (int code = 0; code <= 4044; code++) {
            int u = code / 10 % 10;
            int v = code % 10;
            if (u < v && v < told.umbrellas.size() && like(u, v) && allSo(code / 100, u, v)) {
                found.add(code);
            }
        }
        return found;
    }

    // ---- the answers

    private int yes(int value) {
        trouble = 0;
        return value;
    }

    private int no(int why) {
        trouble = why;
        return -1;
    }

    private boolean nobodyTold() {
        return told.umbrellas.isEmpty();
    }

    private boolean noUmbrella(int u) {
        return u < 0 || u >= told.umbrellas.size();
    }

    private boolean noPerson(int p) {
        return p < 0 || p >= told.people.size();
    }

    private boolean noPeople(int bits) {
        return bits <= 0 || bits > (int) Math.pow(2, told.people.size()) - 1;
    }

    int fault() {
        return fault;
    }

    int where() {
        return trouble == 4 ? place : -1;
    }

    int umbrella(int u, int what) {
        if (noUmbrella(u) || what < 0 || what > 4) {
            return no(1);
        }
        Umbrella it = told.umbrellas.get(u);
        return yes(List.of(it.kind, it.lands, it.ribs, now.has.get(u), now.title.get(u)).get(what));
    }

    int person(int p, int what) {
        if (noPerson(p) || what < 0 || what > 2) {
            return no(1);
        }
        int bits = 0;
        for (int u = 0; u < told.umbrellas.size(); u++) {
            bits += now.has.get(u) == p ? 1 << u : 0;
        }
        return yes(List.of(told.people.get(p), bits, lands(now, p)).get(what));
    }

    int alike(int u) {
        if (noUmbrella(u)) {
            return no(1);
        }
        int bits = 0;
        for (int v = 0; v < told.umbrellas.size(); v++) {
            bits += v != u && like(u, v) ? 1 << v : 0;
        }
        return yes(bits);
    }

    private int rightBits(State state) {
        int bits = 0;
        for (int u = 0; u < told.umbrellas.size(); u++) {
            bits += state.title.get(u) >= 0 && state.title.get(u).equals(state.has.get(u)) ? 1 << u : 0;
        }
        return bits;
    }

    int right() {
        return nobodyTold() ? no(1) : yes(rightBits(now));
    }

    int richest() {
        if (nobodyTold()) {
            return no(1);
        }
        int best = 0;
        for (int p = 1; p < told.people.size(); p++) {
            best = lands(now, p) > lands(now, best) ? p : best;
        }
        return yes(lands(now, best) == 0 ? -2 : best);
    }

    int hasIt(int u, int day) {
        return noUmbrella(u) ? no(1) : day < 0 || day > 40 ? no(2) : yes(behind(day, -1, 0, 0).has.get(u));
    }

    int titleOf(int u, int day) {
        return noUmbrella(u) ? no(1) : day < 0 || day > 40 ? no(2) : yes(behind(day, -1, 0, 0).title.get(u));
    }

    int landsOf(int p, int day) {
        return noPerson(p) ? no(1) : day < 0 || day > 40 ? no(2) : yes(lands(behind(day, -1, 0, 0), p));
    }

    int lapsed(int day) {
        return nobodyTold() ? no(1) : day < 0 || day > 40 ? no(2) : yes(lands(behind(day, -1, 0, 0), -2));
    }

    int passed(int u) {
        if (noUmbrella(u)) {
            return no(1);
        }
        int times = 0;
        for (int day = 0; day <= 40; day++) {
            times += behind(day, -1, 0, 0).title.get(u).equals(behind(day - 1, -1, 0, 0).title.get(u)) ? 0 : 1;
        }
        return yes(times);
    }

    int judge() {
        if (nobodyTold()) {
            return no(1);
        }
        for (Event claim : told.claims) {
            if (behind(claim.day, -1, 0, 0).title.get(claim.one) != claim.other) {
                return yes(told.claims.indexOf(claim));
            }
        }
        return yes(-2);
    }

    int ways() {
        return nobodyTold() ? no(1) : yes(unseen().size());
    }

    int wayAt(int i) {
        if (nobodyTold() || i < 0) {
            return no(1);
        }
        List<Integer> found = unseen();
        return i >= found.size() ? no(1) : yes(found.get(i));
    }

    int longest(int u) {
        if (noUmbrella(u)) {
            return no(1);
        }
        StringBuilder titles = new StringBuilder();
        for (int day = 0; day <= 40; day++) {
            titles.append((char) ('2' + behind(day, -1, 0, 0).title.get(u)));
        }
        for (int many = 41; many > 0; many--) {
            for (int p = 0; p < told.people.size(); p++) {
                if (titles.indexOf(String.valueOf((char) ('2' + p)).repeat(many)) >= 0) {
                    return yes(many);
                }
            }
        }
        return yes(0);
    }

    int worstDay() {
        if (nobodyTold()) {
            return no(1);
        }
        int worst = 40;
        for (int day = 39; day >= 0; day--) {
            worst = lands(behind(day, -1, 0, 0), -2) >= lands(behind(worst, -1, 0, 0), -2) ? day : worst;
        }
        return yes(worst);
    }

    int owing(int p, int other) {
        if (noPerson(p) || noPerson(other) || p == other) {
            return no(1);
        }
        int bits = 0;
        for (int u = 0; u < told.umbrellas.size(); u++) {
            bits += now.title.get(u) == p && now.has.get(u) == other ? 1 << u : 0;
        }
        return yes(bits);
    }

    int change(int p, boolean rain) {
        if (noPerson(p)) {
            no(1);
            return -1000;
        }
        return yes(lands(next(now, rain), p) - lands(now, p));
    }

    int lapsesIn(int u) {
        if (noUmbrella(u)) {
            return no(1);
        }
        State state = now;
        for (int days = 0; days <= 30; days++) {
            if (state.title.get(u) == -2) {
                return yes(days);
            }
            state = next(state, false);
        }
        return yes(-2);
    }

    // ---- parties: every row of umbrellas, as numbers by base 5

    private int[] bestParty(int people) {
        int[] best = null;
        int least = Integer.MAX_VALUE;
        int many = Integer.bitCount(people);
        int rows = (int) Math.pow(told.umbrellas.size(), many);
        for (int row = 0; row < rows; row++) {
            int[] under = new int[told.people.size() + 1];
            int[] load = new int[told.umbrellas.size()];
            int rest = row;
            for (int p = told.people.size() - 1; p >= 0; p--) {
                under[p] = -2;
                if ((people >> p & 1) == 1) {
                    under[p] = rest % told.umbrellas.size();
                    rest /= told.umbrellas.size();
                    load[under[p]]++;
                }
            }
            int danger = danger(people, under, load);
            if (danger >= 0 && danger < least) {
                least = danger;
                best = under;
                best[told.people.size()] = danger;
            }
        }
        return best;
    }

    private int danger(int people, int[] under, int[] load) {
        for (int u = 0; u < load.length; u++) {
            int holder = now.has.get(u);
            if (load[u] > told.umbrellas.get(u).ribs / 4 || load[u] > 0 && (holder < 0 || (people >> holder & 1) == 0)) {
                return -1;
            }
        }
        int sum = 0;
        for (int p = 0; p < told.people.size(); p++) {
            sum += under[p] >= 0 && now.title.get(under[p]) != p ? told.umbrellas.get(under[p]).lands : 0;
        }
        return sum;
    }

    int guest(int people) {
        if (noPeople(people)) {
            return no(1);
        }
        int best = -2;
        int least = Integer.MAX_VALUE;
        for (int p = 0; p < told.people.size(); p++) {
            int[] with = (people >> p & 1) == 1 ? null : bestParty(people + (1 << p));
            if (with != null && with[told.people.size()] < least) {
                least = with[told.people.size()];
                best = p;
            }
        }
        return yes(best);
    }

    int party(int people) {
        if (noPeople(people)) {
            return no(1);
        }
        int[] best = bestParty(people);
        return yes(best == null ? -2 : best[told.people.size()]);
    }

    int partyOf(int people, int p) {
        if (noPeople(people) || noPerson(p)) {
            return no(1);
        }
        int[] best = bestParty(people);
        return best == null ? no(6) : yes(best[p]);
    }

    int room(int people) {
        if (noPeople(people)) {
            return no(1);
        }
        int sum = 0;
        for (int u = 0; u < told.umbrellas.size(); u++) {
            int holder = now.has.get(u);
            sum += holder >= 0 && (people >> holder & 1) == 1 ? told.umbrellas.get(u).ribs / 4 : 0;
        }
        return yes(sum);
    }

    // ---- put right: all rows, sorted by what the document says

    private void rows(State state, List<Integer> row, List<List<Integer>> all) {
        List<Integer> found = new ArrayList<>();
        found.add(-Integer.bitCount(rightBits(state)));
        found.add(row.size());
        found.addAll(row);
        all.add(found);
        for (int code = 1; code <= 44 && row.size() < 3; code++) {
            int u = code / 10;
            int v = code % 10;
            if (u < v && v < told.umbrellas.size() && !state.has.get(u).equals(state.has.get(v))) {
                List<Integer> longer = new ArrayList<>(row);
                longer.add(code);
                rows(swapped(state, u, v), longer, all);
            }
        }
    }

    private List<Integer> bestRow() {
        List<List<Integer>> all = new ArrayList<>();
        rows(now, List.of(), all);
        all.sort((a, b) -> {
            for (int i = 0; i < Math.min(a.size(), b.size()); i++) {
                if (!a.get(i).equals(b.get(i))) {
                    return a.get(i) - b.get(i);
                }
            }
            return 0;
        });
        return all.get(0);
    }

    int putRight() {
        return nobodyTold() ? no(1) : yes(-bestRow().get(0));
    }

    int exchanges() {
        return nobodyTold() ? no(1) : yes(bestRow().get(1));
    }

    int exchangeAt(int i) {
        if (nobodyTold() || i < 0 || i >= bestRow().get(1)) {
            return no(1);
        }
        return yes(bestRow().get(2 + i));
    }

    // ---- gusts, lands, heirs

    private long lowest(java.math.BigInteger upper, java.math.BigInteger under, boolean lower) {
        trouble = 0;
        return (lower ? under : upper).divide(upper.gcd(under)).longValueExact();
    }

    private java.math.BigInteger keeps(int u) {
        int gust = told.umbrellas.get(u).kind == 0 ? told.gust / 2 : told.gust;
        return java.math.BigInteger.valueOf(100 - gust);
    }

    long whole(int u, int n, boolean lower) {
        if (noUmbrella(u)) {
            return no(1);
        }
        return n < 0 || n > 6 ? no(2) : lowest(keeps(u).pow(n), java.math.BigInteger.valueOf(100).pow(n), lower);
    }

    long allWhole(int p, int n, boolean lower) {
        if (noPerson(p)) {
            return no(1);
        }
        if (n < 0 || n > 1) {
            return no(2);
        }
        java.math.BigInteger upper = java.math.BigInteger.ONE;
        java.math.BigInteger under = java.math.BigInteger.ONE;
        for (int u = 0; u < told.umbrellas.size(); u++) {
            if (now.has.get(u) == p) {
                upper = upper.multiply(keeps(u).pow(n));
                under = under.multiply(java.math.BigInteger.valueOf(100).pow(n));
            }
        }
        return lowest(upper, under, lower);
    }

    int divided(int u, int many, int i) {
        if (noUmbrella(u)) {
            return no(1);
        }
        if (many < 1 || many > 9) {
            return no(2);
        }
        if (i < 0 || i >= many) {
            return no(1);
        }
        int[] share = new int[many];
        for (int land = 0; land < told.umbrellas.get(u).lands; land++) {
            share[land % many]++;
        }
        return yes(share[i]);
    }

    private static int[] heirsOf(int lands, int one, int other) {
        int[] pay = {-2 * one, -2 * other};
        if (one == other) {
            pay[0] += lands / 2;
            pay[1] += lands / 2;
        } else {
            pay[one > other ? 0 : 1] += lands;
        }
        return pay;
    }

    int heirs(int lands, int one, int other, boolean ofOther) {
        if (nobodyTold() || lands < 0 || lands > 99 || one < 0 || one > 6 || other < 0 || other > 6) {
            no(nobodyTold() ? 1 : 2);
            return -100;
        }
        return yes(heirsOf(lands, one, other)[ofOther ? 1 : 0]);
    }

    private static List<Integer> restsOf(int lands) {
        List<Integer> found = new ArrayList<>();
        for (int pair = 0; pair < 49; pair++) {
            int one = pair / 7;
            int other = pair % 7;
            int better = 0;
            for (int k = 0; k < 7; k++) {
                better += heirsOf(lands, k, other)[0] > heirsOf(lands, one, other)[0] ? 1 : 0;
                better += heirsOf(lands, one, k)[1] > heirsOf(lands, one, other)[1] ? 1 : 0;
            }
            if (better == 0) {
                found.add(one * 10 + other);
            }
        }
        return found;
    }

    int rests(int lands) {
        return nobodyTold() ? no(1) : lands < 0 || lands > 99 ? no(2) : yes(restsOf(lands).size());
    }

    int rest(int lands) {
        if (nobodyTold() || lands < 0 || lands > 99) {
            return no(nobodyTold() ? 1 : 2);
        }
        List<Integer> found = restsOf(lands);
        return yes(found.isEmpty() ? -2 : found.get(0));
    }

    private int[] mostOf(int p) {
        int[] best = {-1, -1};
        for (int u = told.umbrellas.size() - 1; u >= 0; u--) {
            int then = lands(next(held(now, u, p), true), p);
            if (then >= best[1]) {
                best = new int[] {u, then};
            }
        }
        return best;
    }

    int most(int p) {
        return noPerson(p) ? no(1) : yes(mostOf(p)[0]);
    }

    int mostLands(int p) {
        return noPerson(p) ? no(1) : yes(mostOf(p)[1]);
    }

    private State centuryOf(long seed, int n) {
        State state = now;
        long drawn = seed;
        for (int year = 0; year < n; year++) {
            drawn = (75 * drawn + 74) % 65537;
            int u = (int) (drawn % told.umbrellas.size());
            drawn = (75 * drawn + 74) % 65537;
            state = held(state, u, (int) (drawn % told.people.size()));
            drawn = (75 * drawn + 74) % 65537;
            state = next(state, drawn % 100 < told.rains);
        }
        return state;
    }

    int century(int p, int seed, int n) {
        if (noPerson(p)) {
            return no(1);
        }
        return seed < 0 || seed > 65536 || n < 0 || n > 60 ? no(2) : yes(lands(centuryOf(seed, n), p));
    }

    int untitled(int seed, int n) {
        if (nobodyTold()) {
            return no(1);
        }
        if (seed < 0 || seed > 65536 || n < 0 || n > 60) {
            return no(2);
        }
        return yes((int) centuryOf(seed, n).title.stream().filter(p -> p == -2).count());
    }

    // ---- acts

    private boolean act(State then) {
        kept.push(now);
        if (kept.size() > 16) {
            kept.removeLast();
        }
        now = then;
        trouble = 0;
        return true;
    }

    private boolean not(int why) {
        trouble = why;
        return false;
    }

    boolean lend(int u, int p) {
        return noUmbrella(u) || noPerson(p) ? not(1) : now.has.get(u) == p ? not(5) : act(held(now, u, p));
    }

    boolean leave(int u) {
        return noUmbrella(u) ? not(1) : now.has.get(u) == -2 ? not(5) : act(held(now, u, -2));
    }

    boolean exchange(int u, int v) {
        if (noUmbrella(u) || noUmbrella(v) || u == v) {
            return not(1);
        }
        return now.has.get(u).equals(now.has.get(v)) ? not(5) : act(swapped(now, u, v));
    }

    int day(boolean rain) {
        if (nobodyTold()) {
            return no(1);
        }
        State before = now;
        act(next(now, rain));
        int changed = 0;
        for (int u = 0; u < told.umbrellas.size(); u++) {
            changed += before.title.get(u).equals(now.title.get(u)) ? 0 : 1;
        }
        return yes(changed);
    }

    boolean undo() {
        if (kept.isEmpty()) {
            return not(6);
        }
        now = kept.pop();
        trouble = 0;
        return true;
    }

    int mark() {
        if (nobodyTold() || marks.size() == 3) {
            return no(nobodyTold() ? 1 : 3);
        }
        marks.add(now);
        return yes(marks.size() - 1);
    }

    boolean back(int mark) {
        if (mark < 0 || mark >= marks.size()) {
            return not(1);
        }
        now = marks.get(mark);
        kept.clear();
        trouble = 0;
        return true;
    }

    int led(int i) {
        List<Integer> left = new ArrayList<>();
        for (int u = 0; u < told.umbrellas.size(); u++) {
            if (now.has.get(u) == -2) {
                left.add(u);
            }
        }
        if (i < 0 || i >= left.size()) {
            throw new NoSuchElementException();
        }
        return left.get(i);
    }

    int size(int what) {
        if (what < 0 || what > 10) {
            return -1;
        }
        int[] sizes = {told.lapse, told.gust, told.rains, told.people.size(), told.umbrellas.size(), told.log.size(),
            told.claims.size(), Math.min(now.dry, 30), kept.size(), marks.size(), tape.length()};
        return sizes[what];
    }

    int trouble() {
        return trouble;
    }
}
