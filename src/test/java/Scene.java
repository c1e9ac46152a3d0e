import java.util.ArrayList;
import java.util.List;
import java.util.Map;
import java.util.Set;
import java.util.TreeMap;
import java.util.TreeSet;
import java.util.function.Consumer;
import java.util.function.ToLongFunction;

/**
 * A run of calls, and the whole state of a desk behind it: every term of every register, every
 * hypothesis, the TERMS. A desk serves for 512 calls, so the state is read on desks made anew on
 * which the run is run again.
 */
final class Scene {
    private static final int QUESTIONS = 150;
    private static final int NOTHING = 17;
    private static final int PROBES = 18;

    private final Consumer<PolyDesk> run;
    private Map<String, List<Long>> state;

    // The desk that is asked now, and how many questions it has answered.
    private PolyDesk asked;
    private int questions = QUESTIONS;

    Scene(Consumer<PolyDesk> run) {
        this.run = run;
    }

    /** Every register a poly of its own, three hypotheses, three TERMS that show probe 16. */
    static Scene furnished() {
        return new Scene(x -> {
            for (int r = 15; r >= 0; r--) {
                probe(x, r, r, r - 1, 0);
            }
            x.hypothesis(1);
            x.hypothesis(2);
            x.hypothesis(3);
            x.part(2, 0, 1, -1, -1);
            x.part(3, -1, 2, -1, -1);
            x.part(7, -1, -1, -1, -1);
        });
    }

    Scene with(Consumer<PolyDesk> more) {
        return new Scene(run.andThen(more));
    }

    /** Another desk behind the same run. */
    PolyDesk desk() {
        PolyDesk x = new PolyDesk();
        run.accept(x);
        return x;
    }

    /** The call has this answer and changes nothing. */
    void refuses(String name, ToLongFunction<PolyDesk> call, long answer) {
        changes(name, call, answer);
    }

    /** The call has this answer and changes these parts of the state and no others. */
    void changes(String name, ToLongFunction<PolyDesk> call, long answer, String... parts) {
        Checks.due(name, call.applyAsLong(desk()), answer);
        Map<String, List<Long>> behind = with(call::applyAsLong).state();
        Set<String> changed = new TreeSet<>(behind.keySet());
        changed.addAll(state().keySet());
        changed.removeIf(part -> state().get(part) != null && state().get(part).equals(behind.get(part)));
        Checks.hold(name + " changed " + changed + ", due is " + List.of(parts),
                changed.equals(new TreeSet<>(List.of(parts))));
    }

    /** Behind the call the state is that of another run. */
    void leads(String name, ToLongFunction<PolyDesk> call, long answer, Scene other) {
        Checks.due(name, call.applyAsLong(desk()), answer);
        Checks.hold(name + " leads to another state", with(call::applyAsLong).state().equals(other.state()));
    }

    Map<String, List<Long>> state() {
        if (state == null) {
            state = new TreeMap<>();
            state.put("count(0)", List.of((long) next().count(0)));
            state.put("count(1)", List.of((long) next().count(1)));
            for (int r = 0; r < 16; r++) {
                state.put("register " + r, register(r));
            }
            for (int h = 0; h < state.get("count(0)").get(0); h++) {
                state.put("hypothesis " + h, hypothesis(h));
            }
            state.put("TERMS", terms());
        }
        return state;
    }

    private PolyDesk next() {
        if (questions >= QUESTIONS) {
            asked = desk();
            questions = 0;
        }
        questions++;
        return asked;
    }

    private List<Long> register(int r) {
        List<Long> answers = new ArrayList<>();
        int size = next().size(r);
        for (int k = 0; k < size; k++) {
            for (int what = -1; what < 16; what++) {
                answers.add((long) next().term(r, k, what));
            }
        }
        return answers;
    }

    /** A hypothesis can't be read: so which of the probes it is. */
    private List<Long> hypothesis(int h) {
        List<Long> answers = new ArrayList<>();
        PolyDesk x = desk();
        x.show(0, 1);
        for (int p = 0; p < PROBES; p++) {
            probe(x, p, 0, 1, 2);
            x.part(1, h, -1, -1, -1);
            answers.add((long) x.show(0, 1));
        }
        return answers;
    }

    /** TERMS can't be read: so which of the probes they show. */
    private List<Long> terms() {
        List<Long> answers = new ArrayList<>();
        for (int p = 0; p < PROBES; p++) {
            PolyDesk x = desk();
            probe(x, p, 0, 1, 2);
            answers.add((long) x.show(0, 1));
        }
        return answers;
    }

    /** Register r becomes probe p; spoils the spare registers. */
    private static void probe(PolyDesk x, int p, int r, int spare, int otherSpare) {
        if (p == NOTHING) {
            x.constant(r, 0);
        } else if (p == 16) {
            shown(x, r, spare, otherSpare);
        } else if (p == 0) {
            x.constant(r, 5);
        } else {
            x.constant(r, p + 2);
            x.symbol(spare, p);
            x.times(r, r, spare);
            x.constant(spare, p + 1);
            x.plus(r, r, spare);
        }
    }

    /** Register r becomes 2 times probe 1 times probe 2, and 3 times probe 3, and 7. */
    private static void shown(PolyDesk x, int r, int spare, int otherSpare) {
        probe(x, 1, r, spare, otherSpare);
        probe(x, 2, spare, otherSpare, -1);
        x.times(r, r, spare);
        x.constant(spare, 2);
        x.times(r, r, spare);
        probe(x, 3, spare, otherSpare, -1);
        x.constant(otherSpare, 3);
        x.times(spare, spare, otherSpare);
        x.plus(r, r, spare);
        x.constant(spare, 7);
        x.plus(r, r, spare);
    }
}
