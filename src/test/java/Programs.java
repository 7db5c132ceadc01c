import java.util.Arrays;

/** Programs that several tests use, and what is due for them: tests extend it to have it at hand. */
abstract class Programs {
    /** One phase, two variables with ranges 15 and 15; the expressions are still to come. */
    static final int[] HEAD = {1, 2, 15, 15};

    static final int[][] BUILTINS = {
        {1, 2, 4, 3, 101, 30, 100, 100, 30, 26, 20, 32, 32, 20, 39, 20, 39, 39, 20, 38, 1, 0,
            30, 26, 20, 32, 32, 20, 35, 20, 35, 35, 38, 101},
        {2, 3, 4, 3, 4, 101, 100, 36, 30, 27, 35, 25, 39, 35, 20, 38, 1, 0, 20, 22, 4, 102, 101,
            30, 100, 100, 30, 27, 25, 23, 36, 4, 23, 37, 4, 23, 36, 4, 23, 37, 4, 0,
            30, 26, 3, 37, 21, 23, 37, 4, 1, 36, 102},
        {4, 5, 4, 3, 15, 4, 1, 20, 22, 4, 102, 101, 100, 101, 102,
            30, 27, 25, 31, 34, 26, 32, 20, 35, 35, 20, 24, 37, 4, 1, 0, 104,
            103, 100, 30, 41, 34, 21, 41, 34, 1, 101, 30, 41, 34, 20, 33, 1, 102, 103, 104,
            25, 102, 20, 33, 1, 100, 101, 102, 103,
            27, 27, 25, 31, 34, 103, 26, 32, 20, 40, 1, 40, 1,
            30, 104, 103, 0, 30, 100, 100, 41, 34, 101, 102, 0, 0},
    };

    /** Each process decides its own input at once. */
    static final int[] OWN_INPUT = {1, 2, 4, 3, 101, 20, 101, 1, 101};

    /** A new object with these words. */
    static Lab of(int... words) {
        Lab lab = new Lab();
        lab.words(words);
        return lab;
    }

    /** A new object with these words as a checked program. */
    static Lab checked(int... words) {
        Lab lab = of(words);
        Checks.due("check() of a test's program", 0, lab::check);
        return lab;
    }

    static int[] joined(int[]... rows) {
        return Arrays.stream(rows).flatMapToInt(Arrays::stream).toArray();
    }

    static int[] withHead(int... rest) {
        return joined(HEAD, rest);
    }

    /** So many NOTs, and a number behind them. */
    static int[] nots(int howMany, int number) {
        int[] words = new int[howMany + 1];
        Arrays.fill(words, 29);
        words[howMany] = number;
        return words;
    }

    /** An expression of so many words (an odd number), a flat tree of ADDs: it is worth the number. */
    static int[] sum(int size, int number) {
        if (size == 1) {
            return new int[] {number};
        }
        int ahead = (size - 1) / 4 * 2 + 1;
        return joined(new int[] {20}, sum(ahead, 0), sum(size - 1 - ahead, number));
    }

    /** 400 words without an error: four phases, five variables; the last next value is the number. */
    static int[] full(int number) {
        int[] head = {4, 5, 15, 15, 15, 15, 15};
        int[] one = {29, 1};
        return joined(head, one, new int[22], sum(400 - 7 - 2 - 22, number));
    }

    /**
     * Variable 2 becomes the set that was heard, by messages 1, 2 and 4; variable 1 becomes 0. So
     * each hearing leads to a state of its own.
     */
    static int[] sets(int rangeOfInput) {
        return new int[] {1, 3, 4, rangeOfInput, 7, 30, 25, 31, 2, 4, 20, 31, 1, 0, 0,
            20, 41, 0, 20, 41, 1, 41, 2};
    }

    /** What check() answers for these words, the first time and again. */
    static void errorAt(int due, int... words) {
        Lab lab = of(words);
        String what = "check() of " + Arrays.toString(words);
        Checks.due(what, due, lab::check);
        Checks.due(what + " again", due, lab::check);
        Checks.due("checked: " + what, due == 0 ? 1 : 0, () -> lab.count(1));
    }

    /** The value of an expression as the message of process 0 of one, whose input is 13. */
    static void worth(int due, int... expression) {
        Lab lab = checked(joined(HEAD, expression, new int[2]));
        lab.input(0, 13);
        lab.start(1);
        lab.round();
        Checks.due("the value of " + Arrays.toString(expression), due, () -> lab.message(0));
    }

    /** A round in which messages are these values, and process 0 hears a set by an expression. */
    static void hears(int due, int[] values, int set, int... expression) {
        Lab lab = checked(joined(HEAD, new int[] {101}, expression, new int[1]));
        lab.inputs(values);
        lab.start(values.length);
        lab.hear(0, set);
        lab.round();
        Checks.due(Arrays.toString(expression) + " of " + Arrays.toString(values) + " by " + set,
                due, () -> lab.state(0, 0));
    }

    static int[] by(int n, int rounds, int d, int kind) {
        return new int[] {n, rounds, d, kind};
    }

    /** A search with its answer, its count of states and the run to its violation. */
    static void searched(Lab lab, int[] call, int answer, int states, int... trace) {
        String what = "explore" + Arrays.toString(call);
        Checks.due(what, answer, () -> lab.explore(call[0], call[1], call[2], call[3]));
        Checks.due(what + ": states", states, () -> lab.count(4));
        int rounds = answer > 0 ? trace.length / call[0] - 1 : RoundLab.NONE;
        Checks.due(what + ": rounds", rounds, () -> lab.count(5));
        for (int i = 0; i < trace.length; i++) {
            int place = i;
            Checks.due(what + ": trace " + i, trace[i], () -> lab.trace(place));
        }
        for (int i : new int[] {-1, trace.length, 17, 18, Integer.MIN_VALUE, Integer.MAX_VALUE}) {
            if (i < 0 || i >= trace.length) {
                Checks.compare(what + ": trace " + i, Checks.NO_ELEMENT.getSimpleName(),
                        Checks.answer(() -> lab.trace(i)));
            }
        }
    }
}
