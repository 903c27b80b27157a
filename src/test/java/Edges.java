import java.lang.reflect.Method;
import java.util.Arrays;
import java.util.Comparator;
import java.util.List;
import java.util.function.Supplier;

/** What the tests of single sentences share: they are run one by one, and a wrong answer is told with its sentence. */
abstract class Edges {
    static final int NO_SUCH = -1, BAD_VALUE = -2, BAD_TEXT = -3, TOO_MANY = -4, NOT_POSSIBLE = -5, NONE = -6;
    static final int LEAST = Integer.MIN_VALUE, GREATEST = Integer.MAX_VALUE;
    // Numbers that nothing bears, and with which sums wrap around.
    static final int[] FAR = {-1, LEAST, LEAST + 1, GREATEST - 1, GREATEST};
    // Five patches of twelve letters: as much as a scroll can hold, and as the pad can.
    static final String FULL = "abcdefghijkl|mnopqrstuvwx|abcdefghijkm|mnopqrstuvwz|zyxwvutsrqpo";

    private static Due due;
    private static String at;

    interface Call {
        int on(SeamReadings x);
    }

    static List<Method> testsOf(Class<?> tests) {
        return Arrays.stream(tests.getDeclaredMethods()).filter(test -> test.isAnnotationPresent(Edge.class))
            .sorted(Comparator.comparing(Method::getName)).toList();
    }

    static void run(Class<?> tests) throws ReflectiveOperationException {
        due = new Due(tests.getSimpleName());
        for (Method test : testsOf(tests)) {
            Edge edge = test.getAnnotation(Edge.class);
            at = "promise " + edge.promise() + ", \"" + edge.says() + "\", " + test.getName() + ": ";
            int before = due.looked();
            test.invoke(null);
            due.is(at + "looks at an answer", due.looked() > before ? 1 : 0, 1);
        }
        due.end();
    }

    static void is(String call, long got, long want) {
        due.is(at + call, got, want);
    }

    static void text(String call, String got, String want) {
        due.text(at + call, got, want);
    }

    /** The scrolls of the shelf as one text. */
    static void shelfIs(SeamReadings x, String want) {
        text("the shelf", shelf(x), want);
    }

    static String shelf(SeamReadings x) {
        StringBuilder all = new StringBuilder();
        int scrolls = x.count(0);
        for (int scroll = 0; scroll < scrolls; scroll++) {
            all.append(scroll > 0 ? ";" : "");
            int patches = x.scroll(scroll, 0);
            for (int patch = 0; patch < patches; patch++) {
                all.append(patch > 0 ? "|" : "");
                int letters = x.patch(scroll, patch);
                for (int place = 0; place < letters; place++) {
                    all.append((char) ('a' + x.letter(scroll, patch, place)));
                }
            }
        }
        return all.toString();
    }

    /**
     * All that calls can tell of an object: its scrolls, those before each of its changes, those in its slots, and its pad.
     * It uses the object up, and some 25 calls for each state of a small shelf.
     */
    static String told(SeamReadings x) {
        StringBuilder all = new StringBuilder("pad of " + x.count(5) + " with the fault " + x.fault());
        all.append(", shelf ").append(shelf(x)).append(", changes ").append(x.count(6));
        int left = x.undo();
        // Whoever answers wrong may never come to an end of its changes.
        for (int i = 0; i < 8 && left >= 0; i++) {
            all.append(", before ").append(left).append(' ').append(shelf(x));
            left = x.undo();
        }
        for (int slot = 0; slot < 2; slot++) {
            all.append(", slot ").append(x.restore(slot)).append(' ').append(shelf(x));
        }
        for (int scroll = x.count(0); scroll > 0; scroll--) {
            x.burn(0);
        }
        all.append(", pad ").append(x.sew()).append(' ').append(shelf(x));
        return all.toString();
    }

    /** The call answers an error, and leaves the object as one that was made likewise, but never had the call. */
    static void refused(String named, Supplier<SeamReadings> made, Call call, int error) {
        SeamReadings x = made.get();
        is(named, call.on(x), error);
        text("what there is after " + named, told(x), told(made.get()));
    }

    /** A shelf in the midst of its use: with a history, a saved state in one slot, and a text in the pad. */
    static SeamReadings busy() {
        SeamReadings x = Due.shelf("ab|c;d|e|f|g|hi;jkl");
        x.turn(0, 0);
        x.save(1);
        x.cut(2, 0, 1);
        Due.putAll(x, "pa|d;pad");
        return x;
    }

    /** A scroll's readings, one behind the other. */
    static String readings(SeamReadings x, int scroll) {
        StringBuilder all = new StringBuilder();
        for (int reading = 0; reading < 65 && x.reading(scroll, reading, 0) >= 0; reading++) {
            all.append(reading > 0 ? " " : "");
            for (int place = 0; place < x.scroll(scroll, 1); place++) {
                all.append((char) ('a' + x.reading(scroll, reading, place)));
            }
        }
        return all.toString();
    }
}
