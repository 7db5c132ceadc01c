import java.util.Arrays;

/** Promises 14, 15 and what promise 17 counts of searches. */
public final class SearchTest extends Programs {
    public static void main(String[] args) {
        refusals();
        beginnings();
        differentDecisions();
        noInput();
        changedDecisions();
        leastViolation();
        violationInKnownState();
        kinds();
        roundsAreApart();
        twoHundredStates();
        violationBehindTheLastState();
        firstWayCounts();
        longestTrace();
        whatStaysOfASearch();
        builtins();
        Checks.finish();
    }

    private static void refusals() {
        int[][] wrong = {
            {0, 1, 1, 0}, {4, 1, 1, 0}, {-1, 1, 1, 0}, {1, -1, 1, 0}, {1, 6, 1, 0}, {1, 1, 0, 0},
            {1, 1, 4, 0}, {1, 1, 1, -1}, {1, 1, 1, 4}, {Integer.MAX_VALUE, 1, 1, 0},
            {1, Integer.MIN_VALUE, 1, 0}, {1, 1, Integer.MAX_VALUE, 0}, {1, 1, 1, Integer.MIN_VALUE},
        };
        Lab lab = checked(OWN_INPUT);
        lab.start(3);
        lab.explore(2, 1, 2, 0);
        Lab without = of(OWN_INPUT);
        for (int[] call : wrong) {
            String what = "explore" + Arrays.toString(call);
            Checks.refused(what, Checks.ARGUMENT, lab,
                    () -> lab.explore(call[0], call[1], call[2], call[3]));
            Checks.refused(what + ", not checked", Checks.ARGUMENT, without,
                    () -> without.explore(call[0], call[1], call[2], call[3]));
        }
        Checks.refused("explore, not checked", Checks.STATE, without, () -> without.explore(3, 5, 3, 3));
        without.word(0);
        without.check();
        Checks.refused("explore, an error", Checks.STATE, without, () -> without.explore(1, 0, 1, 0));
    }

    private static void beginnings() {
        Lab lab = checked(OWN_INPUT);
        searched(lab, by(1, 0, 1, 0), 0, 1);
        searched(lab, by(1, 0, 3, 0), 0, 3);
        searched(lab, by(3, 0, 2, 3), 0, 8);
        searched(lab, by(3, 0, 3, 0), 0, 27);
        // With inputs that are cut to 0 only the values that were told tell states apart.
        Lab cut = checked(1, 2, 4, 0, 101, 0, 0);
        searched(cut, by(2, 0, 3, 0), 0, 6);
        searched(cut, by(3, 0, 3, 0), 0, 7);
        searched(cut, by(3, 1, 3, 0), 0, 14);
    }

    private static void differentDecisions() {
        Lab lab = checked(OWN_INPUT);
        searched(lab, by(2, 1, 2, 0), 1, 5, 0, 1, 0, 0);
        searched(lab, by(2, 5, 2, 3), 1, 5, 0, 1, 3, 3);
        searched(lab, by(3, 2, 3, 2), 1, 28, 0, 0, 1, 1, 1, 1);
        searched(lab, by(3, 2, 1, 0), 0, 3);
        searched(lab, by(1, 5, 3, 0), 0, 18);
    }

    private static void noInput() {
        Lab lab = checked(1, 2, 15, 3, 0, 3, 101);
        searched(lab, by(1, 1, 2, 0), 2, 2, 0, 0);
        searched(lab, by(2, 1, 3, 1), 2, 9, 0, 0, 3, 3);
        // An input that was told counts, though it is cut; what it is cut to does not.
        Lab cut = checked(1, 2, 4, 0, 0, 1, 0);
        searched(cut, by(1, 1, 2, 0), 2, 3, 1, 0);
        searched(cut, by(2, 1, 2, 3), 2, 5, 1, 1, 3, 3);
        Lab high = checked(1, 2, 15, 3, 0, 15, 101);
        searched(high, by(1, 1, 3, 0), 2, 3, 0, 0);
        Lab four = checked(1, 2, 15, 3, 0, 4, 101);
        searched(four, by(1, 1, 3, 0), 2, 3, 0, 0);
    }

    private static void changedDecisions() {
        Lab taken = checked(1, 2, 4, 3, 0, 29, 100, 101);
        searched(taken, by(1, 5, 1, 0), 3, 2, 0, 0, 0);
        searched(taken, by(1, 1, 1, 0), 0, 2);
        // Where inputs differ, all decide by the number of the cycle.
        Lab other = checked(1, 2, 4, 3, 101, 30, 25, 36, 37, 0, 20, 33, 1, 101);
        searched(other, by(2, 5, 2, 3), 3, 9, 0, 1, 3, 3, 3, 3);
    }

    private static void leastViolation() {
        Lab oneOfAll = checked(1, 2, 15, 3, 0, 30, 33, 20, 8, 31, 1, 101);
        searched(oneOfAll, by(2, 2, 1, 3), 1, 2, 0, 0, 3, 3, 3, 3);
        searched(oneOfAll, by(1, 2, 1, 3), 2, 2, 0, 1, 1);
        Lab oneOfTwo = checked(1, 2, 15, 3, 0, 20, 8, 31, 101);
        searched(oneOfTwo, by(2, 1, 1, 1), 1, 1, 0, 0, 3, 3);
        searched(oneOfTwo, by(1, 1, 1, 1), 2, 1, 0, 1);
    }

    /** The state that process 0 comes to by taking back its decision was found another way. */
    private static void violationInKnownState() {
        Lab lab = checked(2, 2, 4, 3, 0, 35, 101, 0, 0, 101);
        searched(lab, by(1, 2, 1, 0), 3, 4, 0, 1, 0);
        searched(lab, by(1, 1, 1, 0), 0, 3);
    }

    private static void kinds() {
        Lab lab = checked(sets(3));
        int[][] due = {{3, 2, 2, 2}, {17, 2, 8, 2}, {200, 65, 170, 2}};
        for (int n = 1; n <= 3; n++) {
            for (int kind = 0; kind <= 3; kind++) {
                int answer = n == 3 && kind == 0 ? RoundLab.NONE : 0;
                searched(lab, by(n, 1, 1, kind), answer, due[n - 1][kind]);
            }
        }
    }

    private static void roundsAreApart() {
        Lab lab = checked(1, 2, 4, 3, 101, 100, 101);
        searched(lab, by(1, 5, 1, 0), 0, 6);
        searched(lab, by(3, 5, 3, 0), 0, 162);
    }

    private static void twoHundredStates() {
        searched(checked(sets(1)), by(2, 2, 3, 0), 0, 200);
        searched(checked(sets(3)), by(2, 2, 3, 0), RoundLab.NONE, 200);
        searched(checked(sets(1)), by(2, 3, 3, 0), RoundLab.NONE, 200);
        searched(checked(sets(0)), by(2, 2, 3, 0), 0, 198);
    }

    /** Two rounds find 200 states; in the third one the first state that is come to is wrong. */
    private static void violationBehindTheLastState() {
        int[] first = sets(1);
        int[] phase = Arrays.copyOfRange(first, 5, first.length);
        int[] words = Arrays.copyOf(first, first.length + phase.length + 4);
        System.arraycopy(phase, 0, words, first.length, phase.length);
        System.arraycopy(new int[] {0, 3, 0, 0}, 0, words, first.length + phase.length, 4);
        words[0] = 3;
        searched(checked(words), by(2, 3, 3, 0), 2, 200, 0, 0, 0, 0, 0, 0, 0, 0);
    }

    /** Who has heard process 1 decides wrongly when it hears two in the next round. */
    private static void firstWayCounts() {
        Lab lab = checked(1, 3, 4, 3, 1, 31, 30, 27, 102, 26, 1, 35, 4, 0, 101, 40, 1);
        searched(lab, by(2, 3, 1, 0), 2, 9, 0, 0, 0, 2, 0, 3);
        searched(lab, by(3, 3, 1, 1), 2, 9, 0, 0, 0, 3, 3, 3, 3, 3, 3);
    }

    /** All decide wrongly in the last round that can be searched. */
    private static void longestTrace() {
        Lab lab = checked(1, 2, 4, 3, 101, 30, 25, 33, 4, 4, 0, 101);
        searched(lab, by(3, 5, 1, 3), 2, 5, 0, 0, 0, 7, 7, 7, 7, 7, 7, 7, 7, 7, 7, 7, 7, 7, 7, 7);
        searched(lab, by(3, 4, 1, 3), 0, 5);
    }

    private static void whatStaysOfASearch() {
        Lab lab = checked(OWN_INPUT);
        searched(lab, by(2, 1, 2, 0), 1, 5, 0, 1, 0, 0);
        lab.start(3);
        lab.round();
        Checks.due("a run leaves a trace", 1, () -> lab.trace(1));
        lab.word(3);
        Checks.due("a word leaves a trace", 1, () -> lab.trace(1));
        lab.check();
        lab.clear();
        lab.builtin(0);
        Checks.refused("a refused search", Checks.STATE, lab, () -> lab.explore(1, 1, 1, 0));
        Checks.due("other words leave a trace", 1, () -> lab.trace(1));
        Checks.due("they leave the states", 5, () -> lab.count(4));
        Checks.due("they leave the rounds", 1, () -> lab.count(5));
        lab.check();
        searched(lab, by(1, 0, 1, 0), 0, 1);
    }

    private static void builtins() {
        Lab lab = new Lab();
        lab.builtin(0);
        lab.check();
        searched(lab, by(3, 3, 2, 0), 0, 108);
        lab.builtin(1);
        lab.check();
        searched(lab, by(2, 4, 2, 2), 0, 82);
        searched(lab, by(2, 4, 2, 0), 1, 62, 0, 1, 1, 2, 1, 2);
        searched(lab, by(3, 5, 3, 0), RoundLab.NONE, 200);
        lab.builtin(2);
        lab.check();
        searched(lab, by(3, 2, 2, 3), 0, 19);
    }
}
