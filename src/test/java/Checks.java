import java.util.NoSuchElementException;
import java.util.function.IntSupplier;

/** Counts answers that are as due, prints those that are not, and tells texts to the class. */
final class Checks {
    private final String name;
    private int passed = 0;
    private int failed = 0;

    Checks(String name) {
        this.name = name;
    }

    void due(String call, long got, long want) {
        if (got == want) {
            passed++;
        } else {
            failed++;
            System.out.println(name + ": " + call + " answered " + got + ", due is " + want);
        }
    }

    void due(String call, boolean got, boolean want) {
        due(call, got ? 1 : 0, want ? 1 : 0);
    }

    /** An answer that is no refusal: trouble() says 0 behind it. */
    void fine(UmbrellaHeir x, String call, long got, long want) {
        due(call, got, want);
        due("trouble() behind " + call, x.trouble(), 0);
    }

    void fine(UmbrellaHeir x, String call, boolean got) {
        fine(x, call, got ? 1 : 0, 1);
    }

    void refused(UmbrellaHeir x, String call, long got, int trouble) {
        refused(x, call, got, UmbrellaHeir.NONE, trouble);
    }

    void refused(UmbrellaHeir x, String call, boolean got, int trouble) {
        refused(x, call, got ? 1 : 0, 0, trouble);
    }

    void refused(UmbrellaHeir x, String call, long got, long want, int trouble) {
        due(call, got, want);
        due("trouble() behind " + call, x.trouble(), trouble);
    }

    void noSuch(String call, IntSupplier asked) {
        boolean thrown = false;
        try {
            asked.getAsInt();
        } catch (NoSuchElementException e) {
            thrown = true;
        }
        due(call + " throws", thrown, true);
    }

    void end() {
        System.out.println(name + ": " + passed + " passed, " + failed + " failed");
        if (failed != 0 || passed == 0) {
            System.exit(1);
        }
    }

    static void feed(UmbrellaHeir x, String text) {
        Calls.feed(x, text);
    }

    static int tell(UmbrellaHeir x, String text) {
        return (int) Calls.tell(x, text);
    }

    /** A new object that was told a county. */
    static UmbrellaHeir told(String text) {
        UmbrellaHeir x = new UmbrellaHeir();
        if (tell(x, text) == UmbrellaHeir.NONE) {
            throw new IllegalArgumentException("fault " + x.fault() + " at " + x.where() + ": " + text);
        }
        return x;
    }
}
