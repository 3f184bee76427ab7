import java.util.ArrayList;
import java.util.List;
import java.util.function.IntFunction;

/**
 * The calls that bring a new object to where a test wants it. They can be made anew at any time, so that each check
 * has an object of its own, and none is asked more calls than the document promises answers for.
 */
final class State {
    static final int MOST_CALLS = 512;
    static final State NEW = new State(List.of());

    private final List<Call> calls;

    /** A call on an object; an exception that it throws is its answer too. */
    interface Call {
        Object on(ModelCopies x);
    }

    private State(List<Call> calls) {
        this.calls = calls;
    }

    State then(Call... more) {
        List<Call> all = new ArrayList<>(calls);
        all.addAll(List.of(more));
        return new State(all);
    }

    State thenTimes(int times, IntFunction<Call> numbered) {
        List<Call> all = new ArrayList<>(calls);
        for (int number = 0; number < times; number++) {
            all.add(numbered.apply(number));
        }
        return new State(all);
    }

    int callsLeft() {
        return MOST_CALLS - calls.size();
    }

    ModelCopies made() {
        ModelCopies x = new ModelCopies();
        for (Call call : calls) {
            call.on(x);
        }
        return x;
    }

    static Object answer(ModelCopies x, Call call) {
        try {
            return call.on(x);
        } catch (RuntimeException e) {
            return thrown(e.getClass()) + (Checks.isThrownByTheClass(e) ? "" : ", but not by the class itself");
        }
    }

    static String thrown(Class<?> exception) {
        return "throws " + exception.getSimpleName();
    }
}
