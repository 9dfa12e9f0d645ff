import java.lang.reflect.InvocationTargetException;
import java.lang.reflect.Method;
import java.lang.reflect.Modifier;
import java.util.ArrayList;
import java.util.Comparator;
import java.util.List;
import java.util.NoSuchElementException;

/** The calls of the face by their names, asked of the class or of its plain model. */
final class Calls {
    /** The answer that stands for NoSuchElementException. */
    static final long THROWN = Long.MIN_VALUE;

    private static final List<Method> FACE = ofFace();

    private Calls() {
    }

    /** All of them; reflection tells no order, but the same calls should come in every run. */
    static List<Method> ofFace() {
        List<Method> calls = new ArrayList<>();
        for (Method method : UmbrellaHeir.class.getDeclaredMethods()) {
            if (Modifier.isPublic(method.getModifiers())) {
                calls.add(method);
            }
        }
        calls.sort(Comparator.comparing(Method::getName));
        return calls;
    }

    /** The plain model's method for one of the face. */
    static Method twinOf(Method method) {
        try {
            Method twin = PlainModel.class.getDeclaredMethod(method.getName(), method.getParameterTypes());
            twin.setAccessible(true);
            return twin;
        } catch (NoSuchMethodException e) {
            throw new IllegalStateException(e);
        }
    }

    /** A call as it is written in the tests: "name argument argument", or "tell text", which puts a text on the tape and calls county. */
    static long go(Object on, String call) {
        if (call.startsWith("tell ")) {
            return tell(on, call.substring(5));
        }
        String[] words = call.split(" ");
        Method method = named(on, words[0]);
        Object[] arguments = new Object[words.length - 1];
        for (int i = 0; i < arguments.length; i++) {
            boolean flag = method.getParameterTypes()[i] == boolean.class;
            arguments[i] = flag ? (Object) flagOf(words[i + 1]) : (Object) Integer.valueOf(words[i + 1]);
        }
        return ask(on, method, arguments);
    }

    static long tell(Object on, String text) {
        feed(on, text);
        return ask(on, named(on, "county"), text.length());
    }

    /** Puts a text on the tape, filled up with blanks to twenties. */
    static void feed(Object on, String text) {
        Method feed = named(on, "feed");
        for (int i = 0; i < text.length(); i += 20) {
            Object[] five = new Object[5];
            for (int k = 0; k < 5; k++) {
                int number = 0;
                for (int at = i + 4 * k; at < i + 4 * k + 4; at++) {
                    number = number << 8 | (at < text.length() ? text.charAt(at) & 255 : ' ');
                }
                five[k] = number;
            }
            ask(on, feed, five);
        }
    }

    private static Method named(Object on, String name) {
        for (Method method : FACE) {
            if (method.getName().equals(name)) {
                return on instanceof UmbrellaHeir ? method : twinOf(method);
            }
        }
        throw new IllegalArgumentException(name);
    }

    private static boolean flagOf(String word) {
        if (!word.equals("true") && !word.equals("false")) {
            throw new IllegalArgumentException(word);
        }
        return word.equals("true");
    }

    /** A boolean counts 1 or 0; any exception but that of the document is a fault of the program. */
    static long ask(Object on, Method method, Object... arguments) {
        try {
            Object got = method.invoke(on, arguments);
            return got instanceof Boolean ? ((Boolean) got ? 1 : 0) : ((Number) got).longValue();
        } catch (InvocationTargetException e) {
            if (e.getCause() instanceof NoSuchElementException && method.getName().equals("led")) {
                return THROWN;
            }
            throw new IllegalStateException(method.getName(), e.getCause());
        } catch (IllegalAccessException e) {
            throw new IllegalStateException(method.getName(), e);
        }
    }
}
