import java.util.ArrayList;
import java.util.List;
import java.util.NoSuchElementException;

/** A run of calls on a new sorter: the test of one sentence of the document, which it names. */
final class Run {
    private static final int MOST_CALLS = 512;

    private final String section;
    private final String sentence;
    private final CrossdockSorter sorter = new CrossdockSorter();
    private final List<Call> changes = new ArrayList<>();
    private int calls;

    Run(String section, String sentence) {
        this.section = section;
        this.sentence = sentence;
        Sentences.name(section, sentence);
    }

    static Run ofPromise(int promise, String sentence) {
        return new Run("Promise " + promise, sentence);
    }

    private Object answer(Call call) {
        calls++;
        if (calls > MOST_CALLS) {
            throw new IllegalStateException(section + ": the document promises nothing of a call after the 512th");
        }
        Object answer = call.on(sorter);
        if (call.changes() && !(answer instanceof Class)) {
            changes.add(call);
        }
        return answer;
    }

    private String told(Call call) {
        return section + " (" + sentence + "): call " + calls + ", " + call;
    }

    /** Makes a call that leads to the state of which the sentence tells. */
    Run make(String name, int... arguments) {
        Call call = new Call(name, arguments);
        Object answer = answer(call);
        if (answer instanceof Class) {
            Checks.due(told(call), answer, "no exception");
        }
        return this;
    }

    Run times(int times, String name, int... arguments) {
        for (int i = 0; i < times; i++) {
            make(name, arguments);
        }
        return this;
    }

    Run due(Object want, String name, int... arguments) {
        Call call = new Call(name, arguments);
        Object answer = answer(call);
        Checks.due(told(call), answer, want);
        return this;
    }

    /** Asks the same of the arguments 0, 1, 2 and so on. */
    Run dueEach(String name, Object... wanted) {
        for (int i = 0; i < wanted.length; i++) {
            due(wanted[i], name, i);
        }
        return this;
    }

    Run illegal(String name, int... arguments) {
        return refuses(IllegalArgumentException.class, name, arguments);
    }

    Run illegalState(String name, int... arguments) {
        return refuses(IllegalStateException.class, name, arguments);
    }

    Run outOfBounds(String name, int... arguments) {
        return refuses(IndexOutOfBoundsException.class, name, arguments);
    }

    Run noSuch(String name, int... arguments) {
        return refuses(NoSuchElementException.class, name, arguments);
    }

    Run unsupported(String name, int... arguments) {
        return refuses(UnsupportedOperationException.class, name, arguments);
    }

    Run arithmetic(String name, int... arguments) {
        return refuses(ArithmeticException.class, name, arguments);
    }

    private Run refuses(Class<? extends RuntimeException> want, String name, int... arguments) {
        due(want, name, arguments);
        return changesNothing(name, arguments);
    }

    /** Two new sorters come to this state, one of them gets the call: then all calls behind it must answer the same. */
    Run changesNothing(String name, int... arguments) {
        Call call = new Call(name, arguments);
        for (List<Call> probe : Probes.ALL) {
            if (changes.size() + 1 + probe.size() > MOST_CALLS) {
                throw new IllegalStateException(section + ": too many calls to show what follows " + call);
            }
            CrossdockSorter with = twin();
            CrossdockSorter without = twin();
            call.on(with);
            for (Call next : probe) {
                Checks.due(told(call) + ", and behind it " + next, next.on(with), next.on(without));
            }
        }
        return this;
    }

    private CrossdockSorter twin() {
        CrossdockSorter twin = new CrossdockSorter();
        for (Call change : changes) {
            change.on(twin);
        }
        return twin;
    }
}
