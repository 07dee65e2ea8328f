import java.util.List;
import java.util.function.Supplier;
import java.util.function.ToLongFunction;

/** Calls that must leave a ferry as it is: what they answer, which FINDING they tell, and that nothing else changes. */
final class Asked {
    private static final int LENGTH = 5;

    private Asked() {
    }

    /** BAD, NOT, FULL, or an answer that is only told: the latest FINDING stays, whichever it is. */
    static void unchanged(String call, Supplier<AgeFerry> made, ToLongFunction<AgeFerry> asked, long answer) {
        Check.due(call, asked.applyAsLong(made.get()), answer);
        for (int latest = 0; latest <= LENGTH; latest += LENGTH) {
            due(call, made, asked, answer, latest, latest);
        }
    }

    /** A FINDING becomes the latest one, behind any other. */
    static void found(String call, Supplier<AgeFerry> made, ToLongFunction<AgeFerry> asked, long answer, int finding) {
        due(call, made, asked, answer, 0, finding);
        if (finding != LENGTH) {
            due(call, made, asked, answer, LENGTH, finding);
        }
    }

    /** Two ferries of one making, one asked and one not, must tell the same of all things. */
    private static void due(String call, Supplier<AgeFerry> made, ToLongFunction<AgeFerry> asked, long answer,
            int latest, int finding) {
        AgeFerry one = made.get();
        AgeFerry other = made.get();
        if (latest == LENGTH) {
            one.sheet(0, 0, -1);
        }
        Check.due(call, asked.applyAsLong(one), answer);
        Check.due("count(8) behind " + call, one.count(8), finding);
        List<String> got = State.of(one);
        List<String> want = State.of(other);
        Check.due("things told behind " + call, got.size(), want.size());
        for (int i = 0; i < want.size(); i++) {
            Check.same("behind " + call + ": ", got.get(i), want.get(i));
        }
    }
}
