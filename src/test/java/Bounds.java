import java.util.IdentityHashMap;
import java.util.List;
import java.util.Map;
import java.util.Objects;
import java.util.Set;
import java.util.TreeSet;
import java.util.function.IntFunction;

/**
 * Tests of single sentences of the document. Each test first says which sentence it holds, in the document's words;
 * then it asks for the value at the boundary that is still in, and for the one that is just out. Behind a refused call
 * all that calls show must be as it is without that call.
 */
abstract class Bounds {
    private static final Document DOCUMENT = Document.read();
    private static final int[] FAR = {Integer.MIN_VALUE, Integer.MAX_VALUE};
    private static final String AS_IT_WAS = "all is as it was";

    private final Map<State, List<String>> sights = new IdentityHashMap<>();
    private final Set<String> held = new TreeSet<>();
    private String sentence = "";
    private int asked = 0;
    private int wrong = 0;

    abstract List<Runnable> tests();

    final void run() {
        for (Runnable test : tests()) {
            int askedBefore = asked;
            int heldBefore = held.size();
            sentence = "a test";
            try {
                test.run();
            } catch (RuntimeException e) {
                tell("ended by " + e);
                e.printStackTrace(System.out);
            }
            if (held.size() != heldBefore + 1 || asked == askedBefore) {
                tell("holds no sentence of its own, or asks nothing");
            }
        }
    }

    final Set<String> held() {
        return held;
    }

    final int asked() {
        return asked;
    }

    final int wrong() {
        return wrong;
    }

    static Set<String> promised() {
        return DOCUMENT.promised();
    }

    final void opening(String words) {
        hold(Document.key("What it is", words));
    }

    final void terms(String words) {
        hold(Document.key("Terms", words));
    }

    final void promise(int number, String words) {
        hold(Document.key("Promise " + number, words));
    }

    private void hold(String key) {
        sentence = key;
        held.add(key);
        if (!DOCUMENT.has(key)) {
            tell("is not in the document");
        }
    }

    final void due(Object got, Object want) {
        asked++;
        if (!Objects.equals(got, want)) {
            tell("answered " + got + ", due is " + want);
        }
    }

    final void in(State state, Object want, State.Call call) {
        due(State.answer(state.made(), call), want);
    }

    final void inEach(State state, Object want, IntFunction<State.Call> call, int... values) {
        for (int value : values) {
            in(state, want, call.apply(value));
        }
    }

    final void noSuch(State state, State.Call call) {
        refused(state, IndexOutOfBoundsException.class, call);
    }

    final void outOfRange(State state, State.Call call) {
        refused(state, IllegalArgumentException.class, call);
    }

    final void notNow(State state, State.Call call) {
        refused(state, IllegalStateException.class, call);
    }

    /** Besides the values that are just out, those that are as far out as can be. */
    final void noSuchEach(State state, IntFunction<State.Call> call, int... justOut) {
        for (int[] values : new int[][] {justOut, FAR}) {
            for (int value : values) {
                noSuch(state, call.apply(value));
            }
        }
    }

    final void outOfRangeEach(State state, IntFunction<State.Call> call, int... justOut) {
        for (int[] values : new int[][] {justOut, FAR}) {
            for (int value : values) {
                outOfRange(state, call.apply(value));
            }
        }
    }

    final void notNowEach(State state, IntFunction<State.Call> call, int... values) {
        for (int value : values) {
            notNow(state, call.apply(value));
        }
    }

    /** The families of all copies, as they are kept and as they are found, and how many they are. */
    final void families(State state, int... want) {
        int count = 0;
        for (int copy = 0; copy < want.length; copy++) {
            int c = copy;
            in(state, want[c], x -> x.family(c));
            in(state, want[c], x -> x.familyByErrors(c));
            count += want[c] == c ? 1 : 0;
        }
        in(state, want.length, x -> x.copies());
        in(state, count, x -> x.families());
    }

    final void readings(State state, int copy, int... placesAndReadings) {
        int[] want = new int[24];
        int errors = 0;
        for (int i = 0; i < placesAndReadings.length; i += 2) {
            want[placesAndReadings[i]] = placesAndReadings[i + 1];
        }
        for (int place = 0; place < 24; place++) {
            int p = place;
            in(state, want[p], x -> x.reading(copy, p));
            errors += want[p] == 0 ? 0 : 1;
        }
        in(state, errors, x -> x.errors(copy));
    }

    private void refused(State state, Class<?> exception, State.Call call) {
        Object answer = State.answer(state.made(), call);
        due(answer, State.thrown(exception));
        if (State.thrown(exception).equals(answer)) {
            changesNothing(state, call);
        }
    }

    final void changesNothing(State state, State.Call call) {
        List<String> before = sights.computeIfAbsent(state, Sight::of);
        List<String> behind = Sight.of(state.then(x -> State.answer(x, call)));
        due(firstUnlike(before, behind), AS_IT_WAS);
    }

    private static String firstUnlike(List<String> before, List<String> behind) {
        for (int line = 0; line < before.size() && line < behind.size(); line++) {
            if (!before.get(line).equals(behind.get(line))) {
                return before.get(line) + " became " + behind.get(line);
            }
        }
        return before.size() == behind.size() ? AS_IT_WAS : "more or less is there";
    }

    private void tell(String what) {
        wrong++;
        String where = StackWalker.getInstance().walk(frames -> frames
                .filter(frame -> !frame.getClassName().equals(Bounds.class.getName()))
                .findFirst().map(frame -> frame.getFileName() + ":" + frame.getLineNumber()).orElse("?"));
        System.out.println(where + ": " + sentence + ": " + what);
    }
}
