import java.util.ArrayList;
import java.util.List;

/** All that the calls can tell of a ferry, but for its latest FINDING; some 350 calls, and the ferry is spent by them. */
final class State {
    private static final int MOST_ITEMS = 8;

    private final AgeFerry x;
    private final List<String> told = new ArrayList<>();

    private State(AgeFerry x) {
        this.x = x;
    }

    static List<String> of(AgeFerry x) {
        State state = new State(x);
        state.people();
        state.sheets();
        state.laws();
        state.numbers();
        state.seen();
        return state.told;
    }

    private void tell(String call, long answer) {
        told.add(call + " answered " + answer);
    }

    private void people() {
        for (int what = 0; what <= 7; what++) {
            tell("count(" + what + ")", x.count(what));
        }
        tell("fault()", x.fault());
        tell("digest()", x.digest());
    }

    /** A FINDING of another kind goes ahead of each get, so that count(8) tells what this get found. */
    private void sheets() {
        for (int s = 0; s < 4; s++) {
            for (int form = 0; form < 3; form++) {
                x.sheet(0, 0, -1);
                tell("get(" + s + ", " + form + ", 0)", x.get(s, form, 0));
                tell("its count(8)", x.count(8));
                for (int i = 1; i < MOST_ITEMS; i++) {
                    tell("get(" + s + ", " + form + ", " + i + ")", x.get(s, form, i));
                }
            }
            tell("lose(" + s + ")", x.lose(s));
        }
    }

    private void laws() {
        for (int what = 0; what < 4; what++) {
            tell("set(" + what + ", 1)", x.set(what, 1));
        }
        for (int kind = 0; kind < 2; kind++) {
            for (int a = 0; a < 10; a++) {
                for (int b = a + 1; b < 10; b++) {
                    tell("pair(" + kind + ", " + a + ", " + b + ", 0)", x.pair(kind, a, b, 0));
                }
            }
        }
    }

    private void numbers() {
        for (int number = 0; number < 10; number++) {
            tell("put(" + number + ", 0, 0)", x.put(number, 0, 0));
            tell("put(" + number + ", 1, 0)", x.put(number, 1, 0));
            tell("lie(" + number + ", 0)", x.lie(number, 0));
        }
    }

    /** By ten PEOPLE who are there: so what was SEEN of any two tells. */
    private void seen() {
        x.wipe();
        Check.type(x, "60;61;62;63;64;65;66;67;68;69");
        for (int person = 0; person < 10; person++) {
            for (int what = 0; what < 3; what++) {
                tell("ages(" + person + ", " + what + ")", x.ages(person, what));
            }
        }
        tell("forget()", x.forget());
    }
}
