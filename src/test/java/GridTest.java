import java.lang.reflect.Method;
import java.util.Arrays;
import java.util.Set;

/** Every call with every number at a bound, in states from empty to full: the class answers as the plain model does. */
final class GridTest {
    private static final int[] EDGES = {
        Integer.MIN_VALUE, -2, -1, 0, 1, 2, 3, 4, 5, 6, 7, 8, 9, 10, 11, 31, 32, 40, 41, 60, 61, 63, 64, 98, 99, 100, 410, 411,
        65536, 65537, Integer.MAX_VALUE,
    };
    private static final int[] FEW = {Integer.MIN_VALUE, -1, 0, 1, 5, 6, 7, 8, 9, 10, 60, 61, 99, 100, 65536, 65537, Integer.MAX_VALUE};

    private static final Set<String> ACTS = Set.of("county", "lend", "leave", "exchange", "day", "undo", "mark", "back");

    private final Checks checks = new Checks("GridTest");
    private String name;
    private String county;
    private String[] steps;
    private UmbrellaHeir x;
    private PlainModel model;
    private int asked = 0;

    private GridTest() {
    }

    public static void main(String[] args) {
        GridTest test = new GridTest();
        test.state("new", "");
        test.state("least", Counties.LEAST);
        test.state("full", Counties.FULL, Counties.fullSteps());
        test.state("base", Counties.BASE + ";rain day 1;lent a bob day 2;claims ann a day 0;claims bob a day 3", "lend 0 1", "day false", "mark");
        test.state("alike", Counties.silks(5), "exchange 0 1", "leave 3", "mark", "mark");
        test.state("faulty", Counties.silks(2), "leave 1", "county 0");
        test.checks.end();
    }

    private void state(String called, String text, String... thenSteps) {
        name = called;
        county = text;
        steps = thenSteps;
        asked = 0;
        for (Method method : Calls.ofFace()) {
            if (!method.getName().equals("feed")) {
                grid(method, new Object[method.getParameterCount()], 0);
            }
        }
    }

    private void grid(Method method, Object[] arguments, int from) {
        if (from == arguments.length) {
            compare(method, arguments);
            return;
        }
        if (method.getParameterTypes()[from] == boolean.class) {
            for (boolean flag : new boolean[] {false, true}) {
                arguments[from] = flag;
                grid(method, arguments, from + 1);
            }
            return;
        }
        for (int edge : arguments.length < 3 ? EDGES : FEW) {
            arguments[from] = edge;
            grid(method, arguments, from + 1);
        }
    }

    private void compare(Method method, Object[] arguments) {
        if (asked == 0 || asked > 40 || ACTS.contains(method.getName())) {
            renew();
        }
        asked++;
        String text = name + ": " + method.getName() + Arrays.toString(arguments);
        checks.due(text, Calls.ask(x, method, arguments), Calls.ask(model, Calls.twinOf(method), arguments));
        for (String seen : new String[] {"trouble", "fault", "where"}) {
            checks.due(seen + " behind " + text, Calls.go(x, seen), Calls.go(model, seen));
        }
        if (ACTS.contains(method.getName())) {
            compareState(text);
            asked = 0;
        }
    }

    private void compareState(String text) {
        for (int what = 0; what <= 10; what++) {
            checks.due("size " + what + " behind " + text, x.size(what), model.size(what));
        }
        for (int u = 0; u < x.size(4); u++) {
            checks.due("who has " + u + " behind " + text, x.umbrella(u, 3), model.umbrella(u, 3));
            checks.due("whose title " + u + " is behind " + text, x.umbrella(u, 4), model.umbrella(u, 4));
        }
    }

    /** New objects, before they have been used for too many calls or if an act would be seen by the next one. */
    private void renew() {
        x = new UmbrellaHeir();
        model = new PlainModel();
        asked = 0;
        if (!county.isEmpty()) {
            Calls.tell(x, county);
            Calls.tell(model, county);
        }
        for (String step : steps) {
            Calls.go(x, step);
            Calls.go(model, step);
        }
    }
}
