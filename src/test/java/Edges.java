import java.lang.reflect.Method;
import java.util.ArrayList;
import java.util.HashMap;
import java.util.List;
import java.util.Map;

/**
 * Boundary cases, each on an object of its own: what a call answers, what trouble() says behind it,
 * and that nothing else has changed. Calls are written as "name argument argument", checked ones with " = answer";
 * "tell text" puts a text on the tape and calls county.
 */
final class Edges {
    private static final int PROMISES = 50;

    private final Checks checks;
    private final Map<String, Class<?>> answers = new HashMap<>();
    private final int[] cases = new int[PROMISES + 1];
    private int promise = 0;
    private String sentence = "";
    private String county = "";
    private String[] steps = {};
    private String setup = "";
    private List<Long> untouched = null;

    Edges(Checks checks) {
        this.checks = checks;
        for (Method method : Calls.ofFace()) {
            answers.put(method.getName(), method.getReturnType());
        }
    }

    /** The cases that follow are those of this sentence of the document. */
    void sentence(int ofPromise, String text) {
        promise = ofPromise;
        sentence = text;
    }

    /** The cases that follow begin with a new object that is told this county (none, if empty) and goes these steps. */
    void from(String text, String... thenSteps) {
        county = text;
        steps = thenSteps;
        setup = text.equals(Counties.FULL) && thenSteps.length > 50 ? "full" : text + " | " + String.join("; ", thenSteps);
        untouched = null;
    }

    /** The call isn't refused, and changes nothing. */
    void answers(String call, long want) {
        UmbrellaHeir x = fresh();
        due(call, Calls.go(x, call), want);
        due("trouble() behind " + call, x.trouble(), 0);
        changesNothing(x, call);
    }

    /** The call is refused by a number, and changes nothing. */
    void refuses(String call, int trouble) {
        UmbrellaHeir x = fresh();
        int fault = x.fault();
        due(call, Calls.go(x, call), refusalOf(call));
        due("trouble() behind " + call, x.trouble(), trouble);
        due("where() behind " + call, x.where(), UmbrellaHeir.NONE);
        due("fault() behind " + call, x.fault(), fault);
        changesNothing(x, call);
    }

    void refuseAll(int trouble, String... calls) {
        for (String call : calls) {
            refuses(call, trouble);
        }
    }

    /** No number is told of the call: trouble() and all else stay. */
    void leavesTrouble(String call, long want) {
        UmbrellaHeir x = fresh();
        int trouble = x.trouble();
        int where = x.where();
        due(call, Calls.go(x, call), want);
        due("trouble() stays behind " + call, x.trouble(), trouble);
        due("where() stays behind " + call, x.where(), where);
        changesNothing(x, call);
    }

    void throwsNoSuch(String call) {
        leavesTrouble(call, Calls.THROWN);
    }

    /** Goes steps one behind the other on one object, those with " = answer" checked. */
    UmbrellaHeir goes(String... more) {
        UmbrellaHeir x = fresh();
        for (String step : more) {
            go(x, step);
        }
        return x;
    }

    /** A text that is no fault, told to an object of the present sort; nothing of what it had before stays. */
    void good(String text, int umbrellas) {
        UmbrellaHeir x = fresh();
        due("county of " + text, Checks.tell(x, text), umbrellas);
        due("trouble() of " + text, x.trouble(), 0);
        due("fault() of " + text, x.fault(), 0);
        due("where() of " + text, x.where(), UmbrellaHeir.NONE);
        due("as a new object that is told " + text, probe(x).equals(probe(Checks.told(text))), true);
    }

    /** The first sign ^ stands where the fault is due; THE TAPE is empty then, all else stays. */
    void faulty(String marked, int fault) {
        String text = marked.replaceFirst("\\^", "");
        UmbrellaHeir x = fresh();
        due("county of " + marked, Checks.tell(x, text), UmbrellaHeir.NONE);
        due("trouble() of " + marked, x.trouble(), 4);
        due("fault() of " + marked, x.fault(), fault);
        due("where() of " + marked, x.where(), marked.indexOf('^'));
        due("THE TAPE behind " + marked, x.size(10), 0);
        changesNothing(x, marked);
    }

    void due(String what, long got, long want) {
        cases[promise]++;
        checks.due("promise " + promise + ", " + sentence + " [" + setup + "] " + what, got, want);
    }

    void due(String what, boolean got, boolean want) {
        due(what, got ? 1 : 0, want ? 1 : 0);
    }

    void end() {
        for (int i = 1; i <= PROMISES; i++) {
            checks.due("promise " + i + " has a case", cases[i] > 0, true);
        }
        checks.end();
    }

    // ---- what is refused alike by many calls; % stands where the number comes

    void fromNew(String... thenSteps) {
        from("", thenSteps);
    }

    void fromLeast(String... thenSteps) {
        from(Counties.LEAST, thenSteps);
    }

    void fromFull() {
        from(Counties.FULL, Counties.fullSteps());
    }

    void refusesWithoutCounty(String... calls) {
        fromNew();
        refuseAll(1, calls);
        // A FAULT makes no COUNTY, and what is on THE TAPE is none yet.
        fromNew("county 0", "feed 1 2 3 4 5");
        refuseAll(1, calls);
    }

    void refusesOtherUmbrellas(String call) {
        refusesWithoutCounty(call.replace("%", "0"));
        fromLeast();
        refusesNumbers(call, 1, 1, 4);
        fromFull();
        refusesNumbers(call, 1, 5, 6);
    }

    void refusesOtherPersons(String call) {
        refusesWithoutCounty(call.replace("%", "0"));
        fromLeast();
        refusesNumbers(call, 1, 1, 5);
        fromFull();
        refusesNumbers(call, 1, 6, 7);
    }

    /** People as bits, 1 .. all. */
    void refusesOtherPeople(String call) {
        refusesWithoutCounty(call.replace("%", "0"), call.replace("%", "1"));
        fromLeast();
        refusesNumbers(call, 1, 0, 2, 3, 63);
        fromFull();
        refusesNumbers(call, 1, 0, 64, 65, 127);
    }

    /** These, those below 0, and the lowest and highest of all. */
    void refusesNumbers(String call, int trouble, int... numbers) {
        for (int number : numbers) {
            refuses(call.replace("%", Integer.toString(number)), trouble);
        }
        for (int number : new int[] {-1, -2, Integer.MIN_VALUE, Integer.MAX_VALUE}) {
            refuses(call.replace("%", Integer.toString(number)), trouble);
        }
    }

    // ---- objects and calls

    UmbrellaHeir fresh() {
        UmbrellaHeir x = county.isEmpty() ? new UmbrellaHeir() : Checks.told(county);
        for (String step : steps) {
            go(x, step);
        }
        return x;
    }

    private void go(UmbrellaHeir x, String step) {
        int sign = step.indexOf(" = ");
        String call = sign < 0 ? step : step.substring(0, sign);
        long got = Calls.go(x, call);
        if (sign >= 0) {
            due(call, got, Long.parseLong(step.substring(sign + 3)));
        }
    }

    private long refusalOf(String call) {
        String name = call.split(" ")[0];
        if (answers.get(name) == boolean.class) {
            return 0;
        }
        return name.equals("change") ? -1000 : name.equals("heirs") ? -100 : UmbrellaHeir.NONE;
    }

    // ---- what can be seen of an object

    private void changesNothing(UmbrellaHeir x, String call) {
        if (untouched == null) {
            untouched = probe(fresh());
        }
        due("all else stays behind " + call, probe(x).equals(untouched), true);
    }

    /** Asks for all that an object holds, the acts to undo, the marks and the tape too, which uses it up. */
    private static List<Long> probe(UmbrellaHeir x) {
        List<Long> seen = new ArrayList<>();
        sizes(x, seen);
        told(x, seen);
        int kept = x.size(8);
        for (int i = 0; i < kept; i++) {
            note(seen, x.undo() ? 1 : 0);
            now(x, seen);
        }
        int marks = x.size(9);
        for (int i = 0; i < marks; i++) {
            note(seen, x.back(i) ? 1 : 0);
            now(x, seen);
        }
        note(seen, x.county(x.size(10)));
        note(seen, x.fault());
        note(seen, x.where());
        sizes(x, seen);
        now(x, seen);
        return seen;
    }

    private static void sizes(UmbrellaHeir x, List<Long> seen) {
        for (int what = 0; what <= 10; what++) {
            note(seen, x.size(what));
        }
    }

    private static void told(UmbrellaHeir x, List<Long> seen) {
        int umbrellas = x.size(4);
        int people = x.size(3);
        for (int u = 0; u < umbrellas; u++) {
            for (int what = 0; what < 5; what++) {
                note(seen, x.umbrella(u, what));
            }
            for (int day = 0; day <= 40; day += 20) {
                note(seen, x.hasIt(u, day));
                note(seen, x.titleOf(u, day));
            }
        }
        for (int p = 0; p < people; p++) {
            note(seen, x.person(p, 0));
        }
        note(seen, x.judge());
        note(seen, x.ways());
    }

    private static void now(UmbrellaHeir x, List<Long> seen) {
        note(seen, x.size(7));
        int umbrellas = x.size(4);
        for (int u = 0; u < umbrellas; u++) {
            note(seen, x.umbrella(u, 3));
            note(seen, x.umbrella(u, 4));
        }
    }

    private static void note(List<Long> seen, long value) {
        seen.add(value);
    }
}
