import java.util.Arrays;

/** The sentences of promises 1 to 6 and 16 that name an edge, one by one. */
public final class EdgesOfProgramsTest extends Programs {
    private static final int LEAST = Integer.MIN_VALUE;
    private static final int GREATEST = Integer.MAX_VALUE;

    public static void main(String[] args) {
        Checks.sentence("What it is", "at most 512 calls", EdgesOfProgramsTest::allCallsOfAnObject);
        newObject();
        words();
        builtins();
        clears();
        checks();
        depths();
        places();
        Checks.finish();
    }

    private static void is(int promise, String words, Runnable test) {
        Checks.sentence("Promise " + promise, words, test);
    }

    /** The last calls that are promised answer as all others do. */
    private static void allCallsOfAnObject() {
        Lab full = checked(full(3));
        full.start(7);
        Checks.due("sixty rounds", 60, () -> full.rounds(60));
        while (full.callsLeft() > 1) {
            int left = full.callsLeft();
            Checks.due("with " + left + " calls left", 3, () -> full.state(left % 7, 4));
        }
        Checks.due("call 512", 400, full::clear);
        Lab other = checked(OWN_INPUT);
        while (other.callsLeft() > 3) {
            Checks.due("with " + other.callsLeft() + " calls left", 1, () -> other.explore(2, 1, 2, 0));
        }
        Checks.due("call 510", 5, () -> other.count(4));
        Checks.due("call 511", 1, () -> other.trace(1));
        Checks.due("call 512", 10, () -> other.word(0));
    }

    private static void newObject() {
        is(1, "No words", () -> {
            Lab lab = new Lab();
            Checks.due("count(0)", 0, () -> lab.count(0));
            Checks.refused("at(0)", Checks.NO_ELEMENT, lab, () -> lab.at(0));
            Checks.due("clear()", 0, lab::clear);
            Checks.due("check()", 1, lab::check);
        });
        is(1, "nothing checked", () -> {
            Lab lab = new Lab();
            Checks.due("count(1)", 0, () -> lab.count(1));
            Checks.refused("deep", Checks.STATE, lab, () -> lab.deep(0, -1));
            Checks.refused("start", Checks.STATE, lab, () -> lab.start(1));
            Checks.refused("explore", Checks.STATE, lab, () -> lab.explore(1, 0, 1, 0));
        });
        is(1, "no run", () -> noRun(new Lab()));
        is(1, "all inputs 0", () -> {
            Lab lab = new Lab();
            for (int p = 0; p < 7; p++) {
                int process = p;
                Checks.due("input of " + p, 0, () -> lab.input(process, 1));
            }
            Lab other = checked(withHead(101, 0, 101));
            other.start(7);
            for (int p = 0; p < 7; p++) {
                int process = p;
                Checks.due("what process " + p + " begins with", 0, () -> other.state(process, 1));
            }
        });
    }

    private static void noRun(Lab lab) {
        Checks.due("count(2)", 0, () -> lab.count(2));
        Checks.due("count(3)", 0, () -> lab.count(3));
        Checks.refused("hear", Checks.NO_ELEMENT, lab, () -> lab.hear(0, 0));
        Checks.refused("round", Checks.STATE, lab, lab::round);
        Checks.refused("state", Checks.NO_ELEMENT, lab, () -> lab.state(0, 0));
        Checks.refused("decided", Checks.NO_ELEMENT, lab, () -> lab.decided(0));
        Checks.refused("message", Checks.NO_ELEMENT, lab, () -> lab.message(0));
    }

    /** A checked program with an input, a search, and a run that has gone on. */
    private static Lab rich(int... words) {
        Lab lab = checked(words);
        lab.input(0, 1);
        lab.explore(2, 1, 2, 0);
        lab.start(3);
        lab.round();
        lab.hear(1, 2);
        return lab;
    }

    private static void nothingIsChecked(Lab lab) {
        Checks.due("count(1)", 0, () -> lab.count(1));
        Checks.refused("deep", Checks.STATE, lab, () -> lab.deep(0, 0));
        Checks.refused("start", Checks.STATE, lab, () -> lab.start(3));
        Checks.refused("explore", Checks.STATE, lab, () -> lab.explore(1, 1, 1, 0));
    }

    private static void words() {
        is(2, "A word behind the others: how many there are", () -> {
            int[] odd = {LEAST, GREATEST, -1, 0, 16, 999};
            Lab lab = new Lab();
            for (int i = 0; i < 400; i++) {
                int place = i;
                Checks.due("word " + i, i + 1, () -> lab.word(odd[place % odd.length]));
            }
            for (int i = 0; i < 400; i += 7) {
                int place = i;
                Checks.due("at(" + i + ")", odd[i % odd.length], () -> lab.at(place));
            }
            Checks.due("at(399)", odd[399 % odd.length], () -> lab.at(399));
        });
        is(2, "What was checked, and a run, are gone", () -> {
            for (int word : new int[] {0, 7, -1, 999}) {
                Lab lab = rich(OWN_INPUT);
                Checks.due("a word too much", OWN_INPUT.length + 1, () -> lab.word(word));
                nothingIsChecked(lab);
                noRun(lab);
            }
        });
        is(2, "IllegalStateException: there are 400", () -> {
            Lab lab = rich(full(5));
            Checks.refused("word 401", Checks.STATE, lab, () -> lab.word(0));
            Checks.refused("word 401, any", Checks.STATE, lab, () -> lab.word(LEAST));
            Checks.due("the words", 400, () -> lab.count(0));
            Checks.due("they are still checked", 1, () -> lab.count(1));
            Checks.due("the run goes on", 2, lab::round);
            Lab junk = of(new int[400]);
            Checks.refused("word 401, not checked", Checks.STATE, junk, () -> junk.word(1));
        });
        is(2, "399 words are not 400", () -> {
            Lab lab = of(new int[399]);
            Checks.due("the last word", 400, () -> lab.word(17));
            Checks.due("at(399)", 17, () -> lab.at(399));
            Checks.refused("one more", Checks.STATE, lab, () -> lab.word(1));
        });
    }

    private static void builtins() {
        is(3, "The words of a program that is there, in place of all: how many", () -> {
            for (int k = 0; k < 3; k++) {
                int which = k;
                int size = BUILTINS[k].length;
                for (Lab lab : new Lab[] {new Lab(), of(1, 2, 3), of(new int[400])}) {
                    Checks.due("builtin(" + k + ")", size, () -> lab.builtin(which));
                    Checks.due("count(0)", size, () -> lab.count(0));
                    Checks.due("the last word", BUILTINS[k][size - 1], () -> lab.at(size - 1));
                    Checks.refused("one more", Checks.NO_ELEMENT, lab, () -> lab.at(size));
                    Checks.due("the first word", BUILTINS[k][0], () -> lab.at(0));
                    Checks.due("a word behind them", size + 1, () -> lab.word(9));
                }
            }
        });
        is(3, "in place of all: also of another one that is there", () -> {
            Lab lab = new Lab();
            for (int k : new int[] {2, 0, 1, 0, 2, 2}) {
                Checks.due("builtin(" + k + ")", BUILTINS[k].length, () -> lab.builtin(k));
                Checks.due("check()", 0, lab::check);
            }
            for (int i = 0; i < BUILTINS[2].length; i++) {
                int place = i;
                Checks.due("at(" + i + ")", BUILTINS[2][i], () -> lab.at(place));
            }
        });
        is(3, "(Likewise.)", () -> {
            for (int k = 0; k < 3; k++) {
                int which = k;
                Lab lab = rich(OWN_INPUT);
                Checks.due("builtin(" + k + ")", BUILTINS[k].length, () -> lab.builtin(which));
                nothingIsChecked(lab);
                noRun(lab);
            }
        });
        is(3, "NoSuchElementException: none of these", () -> {
            for (int k : new int[] {LEAST, -1, 3, 4, GREATEST}) {
                for (Lab lab : new Lab[] {new Lab(), of(4, 4), rich(OWN_INPUT), rich(full(1))}) {
                    Checks.refused("builtin(" + k + ")", Checks.NO_ELEMENT, lab, () -> lab.builtin(k));
                }
            }
        });
    }

    private static void clears() {
        is(4, "All words go: how many there were", () -> {
            Lab none = new Lab();
            Checks.due("clear() of none", 0, none::clear);
            Checks.due("a word", 1, () -> none.word(5));
            Checks.due("clear() of one", 1, none::clear);
            Checks.due("clear() again", 0, none::clear);
            Lab lab = of(new int[400]);
            Checks.due("clear() of 400", 400, lab::clear);
            Checks.refused("at(0)", Checks.NO_ELEMENT, lab, () -> lab.at(0));
            Checks.due("check() of none", 1, lab::check);
            Checks.due("a word", 1, () -> lab.word(5));
        });
        is(4, "likewise", () -> {
            Lab lab = rich(OWN_INPUT);
            Checks.due("clear()", OWN_INPUT.length, lab::clear);
            nothingIsChecked(lab);
            noRun(lab);
            Checks.due("an input stays", 1, () -> lab.input(0, 0));
        });
    }

    private static void checks() {
        is(5, "Looks for the first error: its place + 1", () -> {
            errorAt(1);
            errorAt(1, 0);
            errorAt(2, 1);
            errorAt(2, 1, 1);
            errorAt(400, Arrays.copyOf(full(0), 399));
            int[] wrongAtLast = full(42);
            errorAt(400, wrongAtLast);
            errorAt(401, joined(Arrays.copyOf(full(0), 399), new int[] {29}));
        });
        is(5, "0 if there is none, and the words are a checked program", () -> {
            Lab lab = of(OWN_INPUT);
            Checks.due("count(1), before", 0, () -> lab.count(1));
            Checks.due("check()", 0, lab::check);
            Checks.due("count(1)", 1, () -> lab.count(1));
            Checks.due("check() again", 0, lab::check);
            Checks.due("count(1) again", 1, () -> lab.count(1));
            errorAt(0, full(15));
        });
        is(5, "words with an error are none, also where a program was checked before", () -> {
            Lab lab = checked(OWN_INPUT);
            lab.word(0);
            Checks.due("check()", OWN_INPUT.length + 1, lab::check);
            nothingIsChecked(lab);
            lab.clear();
            Checks.due("check() of none", 1, lab::check);
            nothingIsChecked(lab);
        });
        is(5, "(A run is gone.)", () -> {
            Lab lab = rich(OWN_INPUT);
            Checks.due("check()", 0, lab::check);
            Checks.due("count(1)", 1, () -> lab.count(1));
            noRun(lab);
        });
    }

    private static void depths() {
        is(6, "a phase's message lies (part = -1), or that for a variable's next value", () -> {
            Lab lab = checked(2, 3, 1, 1, 1, 29, 0, 0, 29, 29, 0, 29, 29, 29, 0,
                    29, 29, 29, 29, 0, 29, 29, 29, 29, 29, 0, 29, 29, 29, 29, 29, 29, 0, 0);
            int[][] due = {{2, 1, 3, 4}, {5, 6, 7, 1}};
            for (int phase = 0; phase < 2; phase++) {
                for (int part = -1; part < 3; part++) {
                    int h = phase;
                    int t = part;
                    Checks.due("deep(" + h + ", " + t + ")", due[h][t + 1], () -> lab.deep(h, t));
                }
            }
        });
        is(6, "How deep: the deepest of the parts, wherever it stands", () -> {
            Lab lab = checked(withHead(30, 29, 29, 0, 0, 0, 30, 0, 29, 29, 0, 0, 30, 0, 0, 29, 29, 0));
            for (int part = -1; part < 2; part++) {
                int number = part;
                Checks.due("deep(0, " + part + ")", 4, () -> lab.deep(0, number));
            }
        });
        is(6, "IllegalStateException, ahead of the other one: no checked program", () -> {
            Lab withError = of(1, 2, 3);
            withError.check();
            for (Lab lab : new Lab[] {new Lab(), of(OWN_INPUT), withError}) {
                Checks.refused("deep(0, 0)", Checks.STATE, lab, () -> lab.deep(0, 0));
                Checks.refused("deep(-1, 0)", Checks.STATE, lab, () -> lab.deep(-1, 0));
                Checks.refused("deep(0, 9)", Checks.STATE, lab, () -> lab.deep(0, 9));
                Checks.refused("deep(4, -2)", Checks.STATE, lab, () -> lab.deep(4, -2));
            }
        });
        is(6, "NoSuchElementException: phase or part", () -> {
            for (int k = 0; k < 3; k++) {
                Lab lab = rich(BUILTINS[k]);
                int phases = BUILTINS[k][0];
                int variables = BUILTINS[k][1];
                for (int phase : new int[] {LEAST, -1, phases, 5, GREATEST}) {
                    Checks.refused("phase " + phase, Checks.NO_ELEMENT, lab, () -> lab.deep(phase, 0));
                    Checks.refused("phase " + phase, Checks.NO_ELEMENT, lab, () -> lab.deep(phase, -1));
                }
                for (int part : new int[] {LEAST, -2, variables, 6, GREATEST}) {
                    Checks.refused("part " + part, Checks.NO_ELEMENT, lab, () -> lab.deep(0, part));
                }
                Checks.refused("neither", Checks.NO_ELEMENT, lab, () -> lab.deep(phases, variables));
                Checks.due("the last ones", 1, () -> lab.deep(phases - 1, variables - 1) > 0 ? 1 : 0);
            }
        });
    }

    private static void places() {
        is(16, "A word", () -> {
            Lab lab = of(LEAST, -1, 0, 999, GREATEST);
            int[] due = {LEAST, -1, 0, 999, GREATEST};
            for (int i = 0; i < due.length; i++) {
                int place = i;
                Checks.due("at(" + i + ")", due[i], () -> lab.at(place));
            }
            Lab run = rich(OWN_INPUT);
            Checks.due("at(0) in a run", 1, () -> run.at(0));
            Checks.due("the run is there still", 3, () -> run.count(2));
        });
        is(16, "NoSuchElementException", () -> {
            Lab shorter = of(new int[50]);
            shorter.builtin(0);
            for (Lab lab : new Lab[] {new Lab(), of(7), shorter, rich(OWN_INPUT), rich(full(1))}) {
                int size = lab.count(0);
                for (int i : new int[] {LEAST, -1, size, size + 1, 400, 401, GREATEST}) {
                    Checks.refused("at(" + i + ")", Checks.NO_ELEMENT, lab, () -> lab.at(i));
                }
            }
        });
    }
}
