import java.lang.reflect.Constructor;
import java.lang.reflect.Field;
import java.lang.reflect.Method;
import java.lang.reflect.Modifier;
import java.util.Set;
import java.util.TreeSet;

/** The class shows what the document's face has, and nothing else (rule 1 of LANGUAGE.md). */
final class FaceTest {
    private static final String[] FACE = {
        "int feed(int,int,int,int,int)", "int county(int)", "int fault()", "int where()",
        "int umbrella(int,int)", "int person(int,int)", "int alike(int)", "int right()", "int richest()",
        "int hasIt(int,int)", "int titleOf(int,int)", "int landsOf(int,int)", "int lapsed(int)", "int passed(int)",
        "int judge()", "int ways()", "int wayAt(int)", "int longest(int)", "int worstDay()",
        "int owing(int,int)", "int change(int,boolean)", "int lapsesIn(int)", "int guest(int)",
        "int putRight()", "int exchanges()", "int exchangeAt(int)",
        "int party(int)", "int partyOf(int,int)", "int room(int)",
        "long whole(int,int,boolean)", "long allWhole(int,int,boolean)", "int divided(int,int,int)",
        "int heirs(int,int,int,boolean)", "int rests(int)", "int rest(int)", "int most(int)", "int mostLands(int)",
        "int century(int,int,int)", "int untitled(int,int)",
        "boolean lend(int,int)", "boolean leave(int)", "boolean exchange(int,int)", "int day(boolean)",
        "boolean undo()", "int mark()", "boolean back(int)",
        "int led(int)", "int size(int)", "int trouble()",
    };

    private FaceTest() {
    }

    public static void main(String[] args) {
        Checks checks = new Checks("FaceTest");
        Class<?> face = UmbrellaHeir.class;
        checks.due("public and final", Modifier.isPublic(face.getModifiers()) && Modifier.isFinal(face.getModifiers()), true);
        Set<String> wanted = new TreeSet<>(Set.of(FACE));
        Set<String> names = new TreeSet<>();
        for (Method method : face.getDeclaredMethods()) {
            if (Modifier.isPublic(method.getModifiers())) {
                names.add(method.getName());
                checks.due("the document has " + text(method), wanted.remove(text(method)), true);
            }
        }
        checks.due("nothing of the face lacks " + wanted, wanted.size(), 0);
        for (Method method : face.getDeclaredMethods()) {
            if (!Modifier.isPublic(method.getModifiers())) {
                checks.due(text(method) + " is private", Modifier.isPrivate(method.getModifiers()), true);
                checks.due(text(method) + " bears a public name", names.contains(method.getName()), false);
            }
        }
        for (Field field : face.getDeclaredFields()) {
            boolean constant = field.getName().equals("NONE");
            int modifiers = field.getModifiers();
            checks.due(field.getName() + " is private or NONE", Modifier.isPrivate(modifiers) || constant, true);
            checks.due(field.getName() + " static only if final", Modifier.isStatic(modifiers) && !Modifier.isFinal(modifiers), false);
        }
        for (Constructor<?> constructor : face.getDeclaredConstructors()) {
            checks.due("parameters of the constructor", constructor.getParameterCount(), 0);
        }
        checks.due("NONE", UmbrellaHeir.NONE, -1);
        checks.end();
    }

    private static String text(Method method) {
        StringBuilder text = new StringBuilder(method.getReturnType().getSimpleName());
        text.append(' ').append(method.getName()).append('(');
        String comma = "";
        for (Class<?> type : method.getParameterTypes()) {
            text.append(comma).append(type.getSimpleName());
            comma = ",";
        }
        return text.append(')').toString();
    }
}
