import java.util.ArrayList;
import java.util.List;

/** The boundary of an object's use: its 512th call answers as an earlier one would, whatever calls came ahead of it. */
final class EdgesOfUse {
    private static final int MOST_CALLS = 512;

    /** Nobody stands safe under the first umbrella, so that a party's first way is not its best. */
    private static final String COUNTY = "county lapse 3 gust 25 rains 40;person a plain;person k child;person c careless"
        + ";umbrella u silk lands 9 ribs 8 with k;umbrella v silk lands 1 ribs 8 with a;umbrella w cotton lands 4 ribs 4 with c"
        + ";lent u a day 1;changed u v day 2;left w day 3;rain day 3;claims a u day 9";

    private static final String[] QUESTIONS = {"fault", "where", "umbrella 0 4", "umbrella 3 0", "person 0 2", "person 3 0", "alike 0", "right",
        "richest", "hasIt 0 40", "hasIt 0 41", "titleOf 0 40", "landsOf 0 40", "lapsed 40", "lapsed -1", "passed 0", "judge", "ways", "wayAt 0",
        "wayAt 1", "longest 0", "worstDay", "owing 0 1", "change 0 true", "change 2 false", "change 3 true", "lapsesIn 2", "guest 1", "guest 2",
        "putRight", "exchanges", "exchangeAt 0", "exchangeAt 3", "party 3", "party 7", "party 8", "partyOf 3 0", "partyOf 3 1", "partyOf 4 0",
        "room 7", "whole 0 6 true", "whole 0 7 true", "allWhole 0 1 false", "divided 0 9 8", "divided 0 9 9", "heirs 99 6 0 true",
        "heirs 100 0 0 true", "rests 99", "rest 0", "most 0", "mostLands 0", "century 0 65536 60", "century 0 65537 60", "untitled 65536 60",
        "led 0", "size 7", "size 11", "trouble"};

    private static final String[][] ROUNDS = {{"day false"}, {"day true"}, {"mark"}, {"undo"}, {"back 0"}, {"feed 1 2 3 4 5"}, {"county 0"},
        {"county 1"}, {"mark", "day false", "back 0"}, {"lend 0 0", "lend 0 1"}, {"leave 1", "lend 1 2"}, {"exchange 0 1"},
        {"exchange 0 1", "undo"}, {"day false", "day false", "undo"}, {"feed 0 0 0 0 0", "county 20"}, {"lend 2 0", "day true", "party 7"}};

    private final Edges edges;

    EdgesOfUse(Edges edges) {
        this.edges = edges;
    }

    void all() {
        edges.from(COUNTY);
        edges.sentence(1, "An object is used for at most 512 calls: questions.");
        for (String question : QUESTIONS) {
            upToTheLast(question);
        }
        upToTheLast(QUESTIONS);
        edges.sentence(1, "An object is used for at most 512 calls: acts, and what trouble() says behind them.");
        for (String[] round : ROUNDS) {
            upToTheLast(withSizes(round));
        }
        edges.sentence(1, "An object is used for at most 512 calls: county after county.");
        for (String text : new String[] {COUNTY, Counties.FULL, Counties.LEAST, "county", ""}) {
            countiesUpToTheLast(text);
        }
    }

    /** Goes the calls round and round, on the class and on its plain model. */
    private void upToTheLast(String... calls) {
        UmbrellaHeir x = edges.fresh();
        PlainModel plain = new PlainModel();
        Calls.tell(plain, COUNTY);
        int wrong = 0;
        for (int i = 0; i + callsToTell(COUNTY) < MOST_CALLS; i++) {
            String call = calls[i % calls.length];
            wrong += Calls.go(x, call) == Calls.go(plain, call) ? 0 : 1;
        }
        edges.due("wrong answers of " + String.join(", ", calls), wrong, 0);
    }

    private void countiesUpToTheLast(String text) {
        UmbrellaHeir x = new UmbrellaHeir();
        PlainModel plain = new PlainModel();
        int wrong = 0;
        int questions = 3;
        for (int used = callsToTell(text) + questions; used <= MOST_CALLS; used += callsToTell(text) + questions) {
            wrong += Calls.tell(x, text) == Calls.tell(plain, text) ? 0 : 1;
            for (String call : new String[] {"ways", "party 1", "trouble"}) {
                wrong += Calls.go(x, call) == Calls.go(plain, call) ? 0 : 1;
            }
        }
        edges.due("wrong answers told again and again " + text, wrong, 0);
    }

    private static String[] withSizes(String... round) {
        List<String> calls = new ArrayList<>();
        for (String call : round) {
            calls.addAll(List.of(call, "trouble"));
        }
        calls.addAll(List.of("size 7", "size 8", "size 9", "size 10", "person 0 1", "person 0 2"));
        return calls.toArray(new String[0]);
    }

    private static int callsToTell(String text) {
        return (text.length() + 19) / 20 + 1;
    }
}
