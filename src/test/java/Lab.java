import java.util.ArrayList;
import java.util.List;

/**
 * A RoundLab whose calls are written down: so a second one can be brought to the same state, and no
 * test uses an object for more calls than the document speaks of.
 */
final class Lab {
    static final int MOST_CALLS = 512;

    private final RoundLab inside = new RoundLab();
    private final List<Step> steps = new ArrayList<>();

    interface Step {
        int answer(RoundLab lab);
    }

    int call(Step step) {
        if (steps.size() == MOST_CALLS) {
            throw new AssertionError("a test makes more than 512 calls of an object");
        }
        steps.add(step);
        return step.answer(inside);
    }

    int calls() {
        return steps.size();
    }

    int callsLeft() {
        return MOST_CALLS - steps.size();
    }

    /** A new object for which the first calls of this one were made, as many as are told. */
    Lab twin(int howMany) {
        Lab other = new Lab();
        for (Step step : steps.subList(0, howMany)) {
            try {
                other.call(step);
            } catch (RuntimeException e) {
                // It was refused the first time, too.
            }
        }
        return other;
    }

    Lab twin() {
        return twin(steps.size());
    }

    int word(int w) {
        return call(lab -> lab.word(w));
    }

    int builtin(int k) {
        return call(lab -> lab.builtin(k));
    }

    int clear() {
        return call(RoundLab::clear);
    }

    int check() {
        return call(RoundLab::check);
    }

    int deep(int phase, int part) {
        return call(lab -> lab.deep(phase, part));
    }

    int input(int p, int v) {
        return call(lab -> lab.input(p, v));
    }

    /** Answers 0, so that it can stand where calls with an answer do. */
    int start(int n) {
        return call(lab -> {
            lab.start(n);
            return 0;
        });
    }

    int hear(int p, int set) {
        return call(lab -> lab.hear(p, set));
    }

    int round() {
        return call(RoundLab::round);
    }

    int state(int p, int variable) {
        return call(lab -> lab.state(p, variable));
    }

    int decided(int p) {
        return call(lab -> lab.decided(p));
    }

    int message(int p) {
        return call(lab -> lab.message(p));
    }

    int explore(int n, int rounds, int d, int kind) {
        return call(lab -> lab.explore(n, rounds, d, kind));
    }

    int trace(int i) {
        return call(lab -> lab.trace(i));
    }

    int at(int i) {
        return call(lab -> lab.at(i));
    }

    int count(int what) {
        return call(lab -> lab.count(what));
    }

    void words(int... words) {
        for (int word : words) {
            word(word);
        }
    }

    void inputs(int... values) {
        for (int p = 0; p < values.length; p++) {
            input(p, values[p]);
        }
    }

    /** So many rounds, one at least: what the last one answers. */
    int rounds(int howMany) {
        for (int r = 1; r < howMany; r++) {
            round();
        }
        return round();
    }
}
