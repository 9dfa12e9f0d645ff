import java.lang.reflect.Method;
import java.util.ArrayList;
import java.util.Arrays;
import java.util.List;
import java.util.Random;

/** Random counties, whole ones and broken ones, and random calls: the class answers as the plain model does. */
final class ModelTest {
    private static final int OBJECTS = 400;
    private static final int CALLS = 250;
    private static final String[] NAMES = {"a", "b", "c", "d", "e", "with", "day", "plain", "silk", "lands", "abcdefgh", "m", "k", "q"};

    private final Random random = new Random(20261118);
    private final Checks checks = new Checks("ModelTest");
    private final List<Method> calls = Calls.ofFace();

    private ModelTest() {
        calls.removeIf(method -> method.getName().equals("feed") || method.getName().equals("county"));
    }

    public static void main(String[] args) {
        new ModelTest().run();
    }

    private void run() {
        int whole = 0;
        int[] faults = new int[7];
        for (int i = 0; i < OBJECTS; i++) {
            UmbrellaHeir x = new UmbrellaHeir();
            PlainModel model = new PlainModel();
            for (int k = 0; k < CALLS; k++) {
                if (k == 20 || random.nextInt(60) == 0) {
                    tell(x, model, county());
                    whole += x.trouble() == 0 ? 1 : 0;
                    faults[x.fault()]++;
                } else {
                    call(x, model, calls.get(random.nextInt(calls.size())));
                }
            }
        }
        checks.due("enough counties without a fault: " + whole, whole > 500, true);
        checks.due("every fault came up: " + Arrays.toString(faults), Arrays.stream(faults).min().getAsInt() > 10, true);
        checks.end();
    }

    private void tell(UmbrellaHeir x, PlainModel model, String text) {
        int n = text.length();
        for (int i = 0; i < n; i += 20) {
            int[] five = new int[5];
            for (int b = 0; b < 20; b++) {
                five[b / 4] = five[b / 4] << 8 | (i + b < n ? text.charAt(i + b) & 255 : 32);
            }
            int got = x.feed(five[0], five[1], five[2], five[3], five[4]);
            checks.due("feed", got, model.feed(five[0], five[1], five[2], five[3], five[4]));
        }
        checks.due("county of " + text, x.county(n), model.county(n));
        checks.due("trouble of " + text, x.trouble(), model.trouble());
        checks.due("fault of " + text, x.fault(), model.fault());
        checks.due("where of " + text, x.where(), model.where());
    }

    private void call(UmbrellaHeir x, PlainModel model, Method method) {
        Class<?>[] types = method.getParameterTypes();
        Object[] arguments = new Object[types.length];
        for (int i = 0; i < types.length; i++) {
            arguments[i] = types[i] == boolean.class ? (Object) random.nextBoolean() : (Object) number(method.getName(), i);
        }
        String text = method.getName() + Arrays.toString(arguments);
        checks.due(text, Calls.ask(x, method, arguments), Calls.ask(model, Calls.twinOf(method), arguments));
        checks.due("trouble behind " + text, x.trouble(), model.trouble());
    }

    private int number(String call, int i) {
        if (random.nextInt(25) == 0) {
            return random.nextInt(5) == 0 ? random.nextInt() : random.nextInt(200) - 50;
        }
        boolean people = call.equals("party") || call.equals("guest") || call.equals("room") || call.equals("partyOf") && i == 0;
        if (people) {
            return random.nextInt(20);
        }
        if (call.equals("century") && i == 1 || call.equals("untitled") && i == 0) {
            return random.nextInt(65537);
        }
        if (call.equals("century") || call.equals("untitled")) {
            return random.nextInt(i == 0 ? 4 : 62);
        }
        if ((call.equals("hasIt") || call.equals("titleOf") || call.equals("landsOf")) && i == 1 || call.equals("lapsed")) {
            return random.nextInt(42);
        }
        if (call.equals("wayAt")) {
            return random.nextInt(50);
        }
        if (call.equals("size")) {
            return random.nextInt(12);
        }
        return call.startsWith("rest") || call.equals("heirs") && i == 0 ? random.nextInt(20) : random.nextInt(6);
    }

    // ---- texts

    private String county() {
        List<String> people = new ArrayList<>();
        List<String> umbrellas = new ArrayList<>();
        List<String> names = new ArrayList<>(Arrays.asList(NAMES));
        java.util.Collections.shuffle(names, random);
        List<String> lines = new ArrayList<>();
        lines.add("county lapse " + (1 + random.nextInt(random.nextInt(3) == 0 ? 30 : 5)) + " gust " + random.nextInt(100) + " rains " + random.nextInt(100));
        int many = 1 + random.nextInt(4);
        for (int i = 0; i < many; i++) {
            people.add(names.remove(0));
            lines.add("person " + people.get(i) + " " + pick("plain", "plain", "child", "careless"));
        }
        many = 1 + random.nextInt(5);
        for (int i = 0; i < many; i++) {
            umbrellas.add(names.remove(0));
            String line = "umbrella " + umbrellas.get(i) + " " + pick("silk", "cotton", "cotton", "stick", "parasol")
                + " lands " + random.nextInt(random.nextBoolean() ? 100 : 5) + " ribs " + pick("4", "8", "8", "12", "7");
            lines.add(random.nextInt(5) == 0 ? line : line + " with " + of(people));
        }
        int day = 0;
        many = random.nextInt(17);
        for (int i = 0; i < many; i++) {
            day = Math.min(40, day + random.nextInt(4));
            lines.add(event(people, umbrellas) + " day " + day);
        }
        many = random.nextInt(random.nextBoolean() ? 2 : 7);
        for (int i = 0; i < many; i++) {
            lines.add("claims " + of(people) + " " + of(umbrellas) + " day " + random.nextInt(random.nextBoolean() ? 6 : 41));
        }
        return random.nextInt(3) == 0 ? broken(lines) : cut(String.join(";", lines));
    }

    private String event(List<String> people, List<String> umbrellas) {
        switch (random.nextInt(umbrellas.size() > 1 ? 4 : 3)) {
            case 0:
                return "lent " + of(umbrellas) + " " + of(people);
            case 1:
                return "left " + of(umbrellas);
            case 2:
                return "rain";
            default:
                int first = random.nextInt(umbrellas.size());
                int second = (first + 1 + random.nextInt(umbrellas.size() - 1)) % umbrellas.size();
                return "changed " + umbrellas.get(first) + " " + umbrellas.get(second);
        }
    }

    private String broken(List<String> lines) {
        if (random.nextInt(4) == 0) {
            // A line told again brings faults of every number.
            lines.add(random.nextInt(lines.size() + 1), of(lines));
            return cut(String.join(random.nextBoolean() ? ";" : " ; ", lines));
        }
        if (random.nextInt(4) == 0) {
            // Too many of one sort.
            String head = pick("person", "umbrella", "rain day 40", "claims");
            for (int i = 0; i < 17; i++) {
                String name = "n" + (char) ('a' + i);
                lines.add(head.equals("person") ? "person " + name + " plain" : head.equals("umbrella")
                    ? "umbrella " + name + " silk lands 1 ribs 4" : head);
            }
            return cut(String.join(";", lines));
        }
        if (random.nextInt(6) == 0) {
            // What must be told lacks.
            String head = pick("county", "person", "umbrella");
            lines.removeIf(line -> line.startsWith(head) || line.contains(" with "));
            lines.removeIf(line -> !line.startsWith("county") && !line.startsWith("person") && !line.startsWith("umbrella"));
            return cut(String.join(";", lines));
        }
        StringBuilder text = new StringBuilder(String.join(random.nextBoolean() ? ";" : " ;", lines));
        int times = 1 + random.nextInt(2);
        for (int i = 0; i < times; i++) {
            int at = random.nextInt(Math.max(1, text.length() - 1));
            if (text.length() < 2) {
                break;
            }
            switch (random.nextInt(5)) {
                case 0:
                    text.deleteCharAt(at);
                    break;
                case 1:
                    text.insert(at, pick("0", "9", ";", " ", "x", "A", "\u00ff", "county", " with a", "  "));
                    break;
                case 2:
                    text.setCharAt(at, (char) random.nextInt(256));
                    break;
                case 3:
                    text.setLength(at);
                    break;
                default:
                    text.append(pick(" ", ";", ";rain", ";rain day 40", ";person zz child", ";claims"));
                    break;
            }
        }
        return cut(text.toString());
    }

    private static String cut(String text) {
        return text.length() > 1000 ? text.substring(0, 1000) : text;
    }

    private String pick(String... ones) {
        return ones[random.nextInt(ones.length)];
    }

    private String of(List<String> ones) {
        return ones.get(random.nextInt(ones.size()));
    }
}
