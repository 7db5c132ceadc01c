import java.util.Arrays;

/** The sentences of 'Terms' on searches, and of promises 14, 15 and 17, that name an edge. */
public final class EdgesOfSearchesTest extends Programs {
    private static final int LEAST = Integer.MIN_VALUE;
    private static final int GREATEST = Integer.MAX_VALUE;

    /** Nobody decides, and all keep what they have. */
    private static final int[] STILL = {1, 2, 4, 3, 101, 100, 101};

    /** Who hears anybody decides 3, which is no input. */
    private static final int[] WHO_HEARS = {1, 2, 4, 3, 101, 30, 35, 4, 0, 101};

    /** All decide 3, which is no input, in round 4 (the last one of five). */
    private static final int[] WRONG_AT_LAST = {1, 2, 4, 3, 101, 30, 25, 33, 4, 4, 0, 101};

    public static void main(String[] args) {
        kinds();
        beginnings();
        orders();
        statesOfRounds();
        violations();
        ends();
        explores();
        traces();
        counts();
        Checks.finish();
    }

    private static void is(String where, String words, Runnable test) {
        Checks.sentence(where, words, test);
    }

    /** How many hearings of a kind there are: each leads from the one beginning to another state. */
    private static void hearings(int n, int kind, int due) {
        searched(checked(sets(3)), by(n, 1, 1, kind), due > 199 ? RoundLab.NONE : 0,
                Math.min(1 + due, 200));
    }

    private static void kinds() {
        is("Terms", "KINDS: 0 any", () -> {
            hearings(1, 0, 2);
            hearings(2, 0, 16);
            hearings(3, 0, 512);
            // The first and the last hearing are among them.
            searched(checked(1, 2, 4, 3, 101, 30, 35, 0, 4, 101), by(2, 1, 1, 0), 2, 1, 0, 0, 0, 0);
            searched(checked(1, 2, 4, 3, 101, 30, 25, 35, 32, 4, 0, 101), by(1, 1, 1, 0), 2, 2, 0, 1);
        });
        is("Terms", "1 each set has more than half of all", () -> {
            hearings(1, 1, 1);
            hearings(2, 1, 1);
            hearings(3, 1, 64);
            // Half of two is not more than half; two of three are.
            searched(checked(WHO_HEARS), by(2, 1, 1, 1), 2, 1, 0, 0, 3, 3);
            searched(checked(WHO_HEARS), by(3, 1, 1, 1), 2, 1, 0, 0, 0, 3, 3, 3);
        });
        is("Terms", "2 some process is in all sets", () -> {
            hearings(1, 2, 1);
            hearings(2, 2, 7);
            hearings(3, 2, 169);
            searched(checked(WHO_HEARS), by(2, 1, 1, 2), 2, 1, 0, 0, 1, 1);
            // Who hears process 1 alone: the first hearing in which it is the one in all sets.
            int[] onlyOne = {1, 2, 4, 3, 31, 30, 27, 25, 35, 1, 25, 36, 1, 4, 0, 101};
            searched(checked(onlyOne), by(2, 1, 1, 2), 2, 2, 0, 0, 2, 2);
        });
        is("Terms", "3 each set has more than two thirds of all", () -> {
            for (int n = 1; n <= 3; n++) {
                hearings(n, 3, 1);
                int all = (1 << n) - 1;
                int[] trace = new int[2 * n];
                Arrays.fill(trace, n, 2 * n, all);
                searched(checked(WHO_HEARS), by(n, 1, 1, 3), 2, 1, trace);
            }
        });
    }

    private static void beginnings() {
        is("Terms", "with all inputs 0 .. d - 1", () -> {
            Lab lab = checked(STILL);
            int[][] due = {{1, 2, 3}, {1, 4, 9}, {1, 8, 27}};
            for (int n = 1; n <= 3; n++) {
                for (int d = 1; d <= 3; d++) {
                    searched(lab, by(n, 0, d, 0), 0, due[n - 1][d - 1]);
                }
            }
        });
        is("Terms", "what input() told is not for searches", () -> {
            Lab lab = checked(STILL);
            lab.inputs(15, 14, 13);
            searched(lab, by(3, 0, 2, 0), 0, 8);
            Checks.due("an input stays", 15, () -> lab.input(0, 0));
        });
        is("Terms", "which values are some process's input (as told, not cut)", () -> {
            // All inputs are cut to 0: only the sets of their values tell states apart.
            Lab lab = checked(1, 2, 4, 0, 101, 0, 0);
            int[][] due = {{1, 2, 3}, {1, 3, 6}, {1, 3, 7}};
            for (int n = 1; n <= 3; n++) {
                for (int d = 1; d <= 3; d++) {
                    searched(lab, by(n, 0, d, 0), 0, due[n - 1][d - 1]);
                    searched(lab, by(n, 2, d, 3), 0, 3 * due[n - 1][d - 1]);
                }
            }
            // 2 is cut to 1 here: (1, 2) and (2, 1) are one state, (1, 1) and (2, 2) are two.
            searched(checked(1, 2, 4, 1, 101, 0, 0), by(2, 0, 3, 0), 0, 8);
        });
        is("Terms", "and what all processes have", () -> {
            // Variable 4 alone tells how many were heard; nothing else changes.
            Lab lab = checked(1, 5, 0, 0, 0, 0, 15, 0, 0, 0, 0, 0, 35);
            searched(lab, by(1, 1, 1, 0), 0, 3);
            searched(lab, by(2, 1, 1, 0), 0, 10);
            searched(lab, by(3, 1, 1, 0), 0, 65);
            searched(lab, by(1, 5, 3, 0), 0, 33);
        });
    }

    private static void orders() {
        is("Terms", "by ascending inputs (process 0's counts most)", () -> {
            // All hear all, and decide wrongly if process 0 began with 1 (then: with more than 1).
            Lab one = checked(1, 2, 4, 3, 101, 30, 25, 41, 0, 1, 4, 0, 101);
            searched(one, by(2, 1, 2, 3), 2, 6, 1, 0, 3, 3);
            searched(one, by(3, 1, 2, 3), 2, 12, 1, 0, 0, 7, 7, 7);
            searched(one, by(3, 1, 3, 3), 2, 36, 1, 0, 0, 7, 7, 7);
            Lab last = checked(1, 2, 4, 3, 101, 30, 25, 41, 2, 1, 4, 0, 101);
            searched(last, by(3, 1, 3, 3), 2, 28, 0, 0, 1, 7, 7, 7);
            Lab middle = checked(1, 2, 4, 3, 101, 30, 25, 41, 1, 2, 4, 0, 101);
            searched(middle, by(3, 1, 3, 3), 2, 33, 0, 2, 0, 7, 7, 7);
        });
        is("Terms", "by ascending hearings (process 0's set counts most)", () -> {
            searched(checked(WHO_HEARS), by(2, 1, 1, 0), 2, 2, 0, 0, 0, 1);
            searched(checked(WHO_HEARS), by(3, 1, 1, 0), 2, 2, 0, 0, 0, 0, 0, 1);
            // Process 0 is wrong if it hears two: its set 3 comes behind 2, with all sets of others.
            Lab two = checked(1, 2, 4, 3, 101, 30, 27, 25, 31, 0, 25, 35, 2, 4, 0, 101);
            searched(two, by(2, 1, 1, 0), 2, 2, 0, 0, 3, 0);
            searched(two, by(3, 1, 1, 0), 2, 2, 0, 0, 0, 3, 0, 0);
        });
        is("Terms", "from each one, in the order in which they were found", () -> {
            // Round 0 tells who has heard process 1; who has is wrong if it hears two in round 1.
            Lab lab = checked(1, 3, 4, 3, 1, 31, 30, 27, 102, 26, 1, 35, 4, 0, 101, 40, 1);
            searched(lab, by(2, 3, 1, 0), 2, 9, 0, 0, 0, 2, 0, 3);
        });
    }

    private static void statesOfRounds() {
        is("Terms", "those that were not found yet in as many rounds", () -> {
            // All 512 hearings lead to the same state.
            for (int rounds = 0; rounds <= 5; rounds++) {
                searched(checked(STILL), by(3, rounds, 1, 0), 0, rounds + 1);
                searched(checked(STILL), by(3, rounds, 2, 0), 0, 8 * (rounds + 1));
            }
        });
        is("Terms", "(those of different numbers of rounds are different ones)", () -> {
            searched(checked(STILL), by(1, 5, 1, 3), 0, 6);
            // Here the state of one round comes again in each other one.
            Lab lab = checked(2, 2, 0, 3, 0, 0, 29, 101, 0, 0, 29, 101);
            searched(lab, by(1, 5, 1, 3), 0, 6);
        });
    }

    private static void violations() {
        is("Terms", "1 two different decisions", () -> {
            Lab lab = checked(OWN_INPUT);
            searched(lab, by(2, 1, 2, 3), 1, 5, 0, 1, 3, 3);
            searched(lab, by(3, 1, 2, 3), 1, 9, 0, 0, 1, 7, 7, 7);
            // One process alone, and those that decide alike, or not, have no two.
            searched(lab, by(1, 5, 3, 3), 0, 18);
            searched(lab, by(3, 5, 1, 3), 0, 6);
            Lab first = checked(1, 2, 4, 3, 101, 30, 31, 0, 20, 101, 1, 101);
            searched(first, by(3, 5, 2, 3), 0, 48);
            // Process 0 decides nothing, the two others decide what each has.
            Lab others = checked(1, 2, 4, 3, 101, 30, 31, 20, 101, 1, 0, 101);
            searched(others, by(3, 1, 2, 3), 1, 9, 0, 0, 1, 7, 7, 7);
            // The last process decides as the one ahead of it does.
            Lab pair = checked(1, 2, 4, 3, 101, 20, 41, 30, 31, 1, 0, 1, 101);
            searched(pair, by(3, 1, 2, 3), 1, 10, 0, 1, 0, 7, 7, 7);
            // Processes 0 and 2 alone.
            Lab outer = checked(1, 2, 4, 3, 101, 30, 25, 31, 1, 0, 20, 101, 1, 101);
            searched(outer, by(3, 1, 2, 3), 1, 9, 0, 0, 1, 7, 7, 7);
        });
        is("Terms", "2 a decision that is no input", () -> {
            for (int decision = 1; decision <= 15; decision++) {
                Lab lab = checked(1, 2, 15, 3, 0, decision, 101);
                if (decision == 1) {
                    searched(lab, by(1, 1, 1, 3), 0, 2);
                    searched(lab, by(1, 1, 2, 3), 2, 3, 1, 1);
                } else {
                    searched(lab, by(1, 1, 1, 3), 2, 1, 0, 1);
                    searched(lab, by(1, 1, 3, 3), 2, 3, 0, 1);
                }
            }
            // Another process's input is one, too.
            searched(checked(1, 2, 4, 3, 101, 20, 37, 1, 101), by(3, 5, 3, 3), 0, 162);
            // An input that was told counts, not the 0 to which it is cut.
            Lab cut = checked(1, 2, 4, 0, 0, 1, 0);
            searched(cut, by(1, 1, 2, 3), 2, 3, 1, 1);
            searched(cut, by(2, 1, 2, 3), 2, 5, 1, 1, 3, 3);
        });
        is("Terms", "3 a decision that was another one in the state before", () -> {
            Lab lab = checked(1, 2, 4, 3, 101, 30, 25, 36, 37, 0, 20, 33, 1, 101);
            searched(lab, by(2, 5, 2, 3), 3, 9, 0, 1, 3, 3, 3, 3);
            searched(lab, by(2, 1, 2, 3), 0, 8);
        });
        is("Terms", "or is none any more", () -> {
            Lab lab = checked(1, 2, 4, 3, 0, 29, 100, 101);
            searched(lab, by(1, 1, 1, 3), 0, 2);
            searched(lab, by(1, 2, 1, 3), 3, 2, 0, 1, 1);
            // Only one process takes its decision back.
            for (int p = 0; p < 3; p++) {
                Lab one = checked(1, 2, 4, 3, 0, 30, 27, 33, 25, 31, p, 0, 1, 101);
                searched(one, by(3, 5, 1, 3), 3, 2, 0, 0, 0, 7, 7, 7, 7, 7, 7);
            }
            Lab none = checked(1, 2, 4, 3, 0, 30, 27, 33, 25, 31, 3, 0, 1, 101);
            searched(none, by(3, 5, 1, 3), 0, 6);
            // To come from none to a decision is no violation.
            searched(checked(1, 2, 4, 3, 0, 30, 33, 1, 0, 101), by(3, 5, 1, 3), 0, 6);
        });
        is("Terms", "when a state is come to: also one that was found before", () -> {
            // Round 0: who hears decides 0. Round 1: all decide nothing.
            Lab lab = checked(2, 2, 4, 3, 0, 35, 101, 0, 0, 101);
            searched(lab, by(1, 2, 1, 0), 3, 4, 0, 1, 0);
        });
        is("Terms", "the least of these counts", () -> {
            // 1 and 2: decisions 8 and 9. 2 alone: one process.
            Lab oneAndTwo = checked(1, 2, 15, 3, 0, 20, 8, 31, 101);
            searched(oneAndTwo, by(2, 1, 1, 3), 1, 1, 0, 0, 3, 3);
            searched(oneAndTwo, by(1, 1, 1, 3), 2, 1, 0, 1);
            // 1, 2 and 3; 2 and 3: the same behind a round in which all decide 0.
            Lab all = checked(1, 2, 15, 3, 0, 30, 33, 20, 8, 31, 1, 101);
            searched(all, by(2, 2, 1, 3), 1, 2, 0, 0, 3, 3, 3, 3);
            searched(all, by(1, 2, 1, 3), 2, 2, 0, 1, 1);
            // 1 and 3: where inputs differ all decide 0, then each one its number.
            Lab oneAndThree = checked(1, 2, 4, 3, 101, 30, 25, 36, 37, 0, 30, 33, 20, 31, 1, 1, 101);
            searched(oneAndThree, by(2, 2, 2, 3), 1, 9, 0, 1, 3, 3, 3, 3);
        });
    }

    private static void ends() {
        is("Terms", "The search ends with the first one", () -> {
            // Round 1: same inputs take the decision back (3), others decide by number (1).
            Lab lab = checked(1, 2, 4, 3, 101, 30, 33, 30, 25, 36, 37, 0, 20, 31, 1, 20, 36, 1, 101);
            searched(lab, by(2, 5, 2, 3), 3, 8, 0, 0, 3, 3, 3, 3);
        });
        is("Terms", "(its state is not counted)", () -> {
            searched(checked(WHO_HEARS), by(1, 1, 1, 3), 2, 1, 0, 1);
            searched(checked(WHO_HEARS), by(1, 1, 1, 0), 2, 2, 0, 1);
        });
        is("Terms", "or when a state would be the 201st that was found", () -> {
            // 8, 9 or 6 beginnings and 6 * 16 states in each of two rounds.
            searched(checked(sets(1)), by(2, 2, 3, 0), 0, 200);
            searched(checked(sets(3)), by(2, 2, 3, 0), RoundLab.NONE, 200);
            searched(checked(sets(0)), by(2, 2, 3, 0), 0, 198);
            // 200 states are there, and the next round finds one more.
            searched(checked(sets(1)), by(2, 3, 3, 0), RoundLab.NONE, 200);
        });
        is("Terms", "a violation where the 201st would be found ends it ahead of that", () -> {
            searched(checked(thirdRound(1)), by(2, 3, 3, 0), 2, 200, 0, 0, 0, 0, 0, 0, 0, 0);
            // With 201 states ahead of that round it is not come to.
            searched(checked(thirdRound(3)), by(2, 3, 3, 0), RoundLab.NONE, 200);
        });
    }

    /** Two rounds of sets, and a third one in which all decide 2 at once. */
    private static int[] thirdRound(int rangeOfInput) {
        int[] words = sets(rangeOfInput);
        int[] phase = Arrays.copyOfRange(words, 5, words.length);
        int[] all = joined(words, phase, new int[] {0, 3, 0, 0});
        all[0] = 3;
        return all;
    }

    private static void explores() {
        is("Promise 14", "the violation (1 .. 3), 0 if there is none", () -> {
            searched(checked(OWN_INPUT), by(2, 1, 2, 3), 1, 5, 0, 1, 3, 3);
            searched(checked(WHO_HEARS), by(1, 1, 1, 3), 2, 1, 0, 1);
            searched(checked(1, 2, 4, 3, 0, 29, 100, 101), by(1, 2, 1, 3), 3, 2, 0, 1, 1);
            searched(checked(STILL), by(3, 5, 2, 0), 0, 48);
        });
        is("Promise 14", "NONE if there are more than 200 states", () -> {
            searched(checked(sets(1)), by(2, 2, 3, 0), 0, 200);
            searched(checked(sets(3)), by(2, 2, 3, 0), RoundLab.NONE, 200);
        });
        is("Promise 14", "n is not 1 .. 3", () -> numbers(0, LEAST, -1, 0, 4, 5, GREATEST));
        is("Promise 14", "rounds not 0 .. 5", () -> numbers(1, LEAST, -1, 6, 7, GREATEST));
        is("Promise 14", "d not 1 .. 3", () -> numbers(2, LEAST, -1, 0, 4, 5, GREATEST));
        is("Promise 14", "or kind not 0 .. 3", () -> numbers(3, LEAST, -1, 4, 5, GREATEST));
        is("Promise 14", "n 1 .. 3, rounds 0 .. 5, d 1 .. 3, kind 0 .. 3", () -> {
            Lab lab = checked(STILL);
            for (int k = 0; k < 3 * 6 * 3 * 4; k++) {
                int n = k % 3 + 1;
                int rounds = k / 3 % 6;
                int d = k / 18 % 3 + 1;
                int kind = k / 54;
                int states = (int) Math.pow(d, n) * (rounds + 1);
                Checks.due("explore", 0, () -> lab.explore(n, rounds, d, kind));
                Checks.due("its states", states, () -> lab.count(4));
            }
        });
        is("Promise 14", "0 rounds are a search of the beginnings alone", () -> {
            searched(checked(WHO_HEARS), by(3, 0, 3, 0), 0, 27);
            searched(checked(OWN_INPUT), by(1, 0, 1, 3), 0, 1);
        });
        is("Promise 14", "IllegalStateException: no checked program", () -> {
            Lab withError = of(STILL);
            withError.word(0);
            withError.check();
            Lab changed = checked(OWN_INPUT);
            changed.explore(2, 1, 2, 0);
            changed.word(0);
            for (Lab lab : new Lab[] {new Lab(), of(STILL), withError, changed}) {
                Checks.refused("explore", Checks.STATE, lab, () -> lab.explore(1, 0, 1, 0));
                Checks.refused("explore", Checks.STATE, lab, () -> lab.explore(3, 5, 3, 3));
                Checks.refused("n is wrong", Checks.ARGUMENT, lab, () -> lab.explore(4, 5, 3, 3));
                Checks.refused("kind is wrong", Checks.ARGUMENT, lab, () -> lab.explore(3, 5, 3, 4));
            }
        });
        is("Promise 14", "a run by hand is not what is searched", () -> {
            Lab lab = checked(OWN_INPUT);
            lab.inputs(2, 3, 1);
            lab.start(3);
            lab.hear(0, 2);
            lab.explore(2, 2, 2, 0);
            Checks.due("processes", 3, () -> lab.count(2));
            Checks.due("rounds", 0, () -> lab.count(3));
            Checks.due("message", RoundLab.NONE, () -> lab.message(0));
            Checks.due("hearing", 2, () -> lab.hear(0, 2));
            Checks.due("state", 3, () -> lab.state(1, 1));
            lab.round();
            lab.explore(3, 1, 1, 3);
            Checks.due("decided", 2, () -> lab.decided(0));
            Checks.due("message", 1, () -> lab.message(2));
            Checks.due("the next round", 2, lab::round);
        });
    }

    /** Wrong numbers in one place of a search; right ones in the others, or wrong ones, too. */
    private static void numbers(int place, int... wrong) {
        Lab lab = checked(OWN_INPUT);
        lab.explore(2, 1, 2, 0);
        lab.start(2);
        for (int number : wrong) {
            for (int[] others : new int[][] {{1, 0, 1, 0}, {3, 5, 3, 3}, {0, -1, 0, -1}, {4, 6, 4, 4}}) {
                int[] call = others.clone();
                call[place] = number;
                Checks.refused("explore" + Arrays.toString(call), Checks.ARGUMENT, lab,
                        () -> lab.explore(call[0], call[1], call[2], call[3]));
            }
        }
        Checks.due("the latest search is what it was", 5, () -> lab.count(4));
    }

    private static void traces() {
        is("Promise 15", "the inputs of the processes, then their sets, round by round", () -> {
            Lab lab = checked(WRONG_AT_LAST);
            searched(lab, by(3, 5, 1, 3), 2, 5, 0, 0, 0, 7, 7, 7, 7, 7, 7, 7, 7, 7, 7, 7, 7, 7, 7, 7);
            searched(lab, by(2, 5, 2, 1), 2, 20, 0, 0, 3, 3, 3, 3, 3, 3, 3, 3, 3, 3);
            searched(lab, by(1, 5, 3, 2), 2, 15, 0, 1, 1, 1, 1, 1);
            searched(lab, by(3, 4, 1, 3), 0, 5);
        });
        is("Promise 15", "(Of those that came to a state, the first one that did counts.)", () -> {
            // Where inputs differ, round 0 tells only that they do: (0, 1) and (1, 0) come to one state.
            Lab differ = checked(1, 3, 4, 3, 1, 101, 30, 102, 4, 0, 0, 29, 25, 36, 37);
            searched(differ, by(2, 2, 2, 3), 2, 8, 0, 1, 3, 3, 3, 3);
            Lab lab = checked(1, 3, 4, 3, 1, 31, 30, 27, 102, 26, 1, 35, 4, 0, 101, 40, 1);
            searched(lab, by(2, 3, 1, 0), 2, 9, 0, 0, 0, 2, 0, 3);
            searched(lab, by(3, 3, 1, 1), 2, 9, 0, 0, 0, 3, 3, 3, 3, 3, 3);
        });
        is("Promise 15", "NoSuchElementException: there is none", () -> {
            Lab lab = checked(WRONG_AT_LAST);
            lab.explore(3, 5, 1, 3);
            Checks.due("the last number", 7, () -> lab.trace(17));
            for (int i : new int[] {LEAST, -1, 18, 19, GREATEST}) {
                Checks.refused("trace(" + i + ")", Checks.NO_ELEMENT, lab, () -> lab.trace(i));
            }
            // A shorter run leaves nothing of a longer one.
            lab.explore(1, 5, 1, 3);
            Checks.due("the last number", 1, () -> lab.trace(5));
            for (int i : new int[] {-1, 6, 7, 17, 18}) {
                Checks.refused("trace(" + i + ")", Checks.NO_ELEMENT, lab, () -> lab.trace(i));
            }
            Lab once = checked(WHO_HEARS);
            once.explore(1, 1, 1, 3);
            Checks.due("the last number", 1, () -> once.trace(1));
            Checks.refused("one more", Checks.NO_ELEMENT, once, () -> once.trace(2));
        });
        is("Promise 15", "or the latest explore() found no violation", () -> {
            Lab none = checked(STILL);
            Checks.refused("no search", Checks.NO_ELEMENT, none, () -> none.trace(0));
            none.explore(2, 2, 2, 0);
            Checks.refused("no violation", Checks.NO_ELEMENT, none, () -> none.trace(0));
            Lab lab = checked(WRONG_AT_LAST);
            lab.explore(3, 5, 1, 3);
            lab.explore(3, 4, 1, 3);
            Checks.refused("none behind one", Checks.NO_ELEMENT, lab, () -> lab.trace(0));
            Lab many = checked(thirdRound(1));
            many.explore(2, 3, 3, 0);
            Checks.due("a violation", 0, () -> many.trace(0));
            many.clear();
            many.words(sets(3));
            many.check();
            many.explore(2, 2, 3, 0);
            Checks.refused("more than 200 behind one", Checks.NO_ELEMENT, many, () -> many.trace(0));
        });
        is("Promise 15", "the latest explore(): other calls leave it", EdgesOfSearchesTest::searchStays);
    }

    private static void searchStays() {
        Lab lab = checked(OWN_INPUT);
        lab.explore(2, 1, 2, 0);
        Lab.Step[] others = {x -> x.input(0, 2), x -> {
            x.start(7);
            return 0;
        }, x -> x.hear(0, 1), RoundLab::round, RoundLab::check, x -> x.word(9), RoundLab::check,
            x -> x.builtin(2), RoundLab::check, RoundLab::clear};
        for (Lab.Step other : others) {
            lab.call(other);
            int[] due = {0, 1, 0, 0};
            for (int i = 0; i < 4; i++) {
                int place = i;
                Checks.due("trace(" + i + ")", due[i], () -> lab.trace(place));
            }
            Checks.due("count(4)", 5, () -> lab.count(4));
            Checks.due("count(5)", 1, () -> lab.count(5));
        }
    }

    private static void counts() {
        is("Promise 17", "0 words", () -> {
            Lab lab = new Lab();
            Checks.due("none", 0, () -> lab.count(0));
            lab.word(7);
            Checks.due("one", 1, () -> lab.count(0));
            Lab full = of(new int[400]);
            Checks.due("400", 400, () -> full.count(0));
        });
        is("Promise 17", "1 1 if they are a checked program, else 0", () -> {
            Lab lab = new Lab();
            Checks.due("no words", 0, () -> lab.count(1));
            lab.words(STILL);
            Checks.due("not checked", 0, () -> lab.count(1));
            lab.check();
            Checks.due("checked", 1, () -> lab.count(1));
            lab.start(1);
            lab.round();
            lab.explore(1, 1, 1, 0);
            Checks.due("still", 1, () -> lab.count(1));
            lab.word(0);
            Checks.due("a word more", 0, () -> lab.count(1));
            lab.check();
            Checks.due("an error", 0, () -> lab.count(1));
        });
        is("Promise 17", "2 processes of the run (0: none)", () -> {
            Lab lab = checked(STILL);
            Checks.due("none", 0, () -> lab.count(2));
            for (int n : new int[] {1, 7, 2}) {
                lab.start(n);
                Checks.due("processes", n, () -> lab.count(2));
            }
            lab.check();
            Checks.due("none any more", 0, () -> lab.count(2));
        });
        is("Promise 17", "3 rounds done of it", () -> {
            Lab lab = checked(STILL);
            Checks.due("no run", 0, () -> lab.count(3));
            lab.start(2);
            Checks.due("none done", 0, () -> lab.count(3));
            lab.rounds(60);
            Checks.due("60 done", 60, () -> lab.count(3));
            lab.start(2);
            Checks.due("a new run", 0, () -> lab.count(3));
            lab.round();
            lab.check();
            Checks.due("no run any more", 0, () -> lab.count(3));
        });
        is("Promise 17", "4 states found by the latest explore() (0 before; 200 if there were more)", () -> {
            Lab lab = checked(STILL);
            Checks.due("before", 0, () -> lab.count(4));
            lab.explore(1, 0, 1, 0);
            Checks.due("one", 1, () -> lab.count(4));
            Lab many = checked(sets(3));
            many.explore(2, 2, 3, 0);
            Checks.due("more", 200, () -> many.count(4));
            many.explore(2, 1, 3, 0);
            Checks.due("the latest", 105, () -> many.count(4));
        });
        is("Promise 17", "5 rounds of the run that came to its violation (NONE: none)", () -> {
            Lab lab = checked(WRONG_AT_LAST);
            Checks.due("before", RoundLab.NONE, () -> lab.count(5));
            lab.explore(2, 5, 1, 3);
            Checks.due("five", 5, () -> lab.count(5));
            lab.explore(2, 4, 1, 3);
            Checks.due("none", RoundLab.NONE, () -> lab.count(5));
            Lab once = checked(WHO_HEARS);
            once.explore(2, 5, 1, 3);
            Checks.due("one", 1, () -> once.count(5));
            Lab many = checked(sets(3));
            many.explore(2, 2, 3, 0);
            Checks.due("more than 200 states", RoundLab.NONE, () -> many.count(5));
        });
        is("Promise 17", "IllegalArgumentException: none of these", () -> {
            Lab lab = checked(OWN_INPUT);
            lab.explore(2, 1, 2, 0);
            lab.start(2);
            for (int what : new int[] {LEAST, -1, 6, 7, GREATEST}) {
                Checks.refused("count(" + what + ")", Checks.ARGUMENT, lab, () -> lab.count(what));
            }
            Lab none = new Lab();
            Checks.refused("count(6) of a new object", Checks.ARGUMENT, none, () -> none.count(6));
        });
    }
}
