/** The sentences of 'Terms' on runs, and of promises 7 to 13, that name an edge, one by one. */
public final class EdgesOfRunsTest extends Programs {
    private static final int LEAST = Integer.MIN_VALUE;
    private static final int GREATEST = Integer.MAX_VALUE;

    /** Message: the input. Variable 0: how many are heard. Variable 1 stays. */
    private static final int[] HOW_MANY = withHead(101, 35, 101);

    public static void main(String[] args) {
        runs();
        hearings();
        inputs();
        starts();
        hears();
        rounds();
        states();
        decisions();
        messages();
        Checks.finish();
    }

    private static void is(String where, String words, Runnable test) {
        Checks.sentence(where, words, test);
    }

    private static void runs() {
        is("Terms", "A RUN has n processes 0 .. n - 1", () -> {
            for (int n = 1; n <= 7; n++) {
                int none = n;
                Lab lab = checked(HOW_MANY);
                lab.start(n);
                Checks.due("count(2)", n, () -> lab.count(2));
                Checks.due("the last one", 0, () -> lab.state(none - 1, 1));
                Checks.refused("one more", Checks.NO_ELEMENT, lab, () -> lab.state(none, 1));
            }
        });
        is("Terms", "Variable 1 of each has its INPUT at first, cut to its range, the others 0", () -> {
            for (int range = 0; range <= 15; range++) {
                Lab lab = checked(1, 5, 15, range, 15, 15, 15, 0, 9, 9, 9, 9, 9);
                lab.inputs(0, 1, range, range < 15 ? range + 1 : 15, 14, 15, range > 0 ? range - 1 : 0);
                lab.start(7);
                int[] told = {0, 1, range, range + 1, 14, 15, range - 1};
                for (int p = 0; p < 7; p++) {
                    int process = p;
                    int due = Math.max(0, Math.min(told[p], range));
                    Checks.due("input " + told[p] + " in " + range, due, () -> lab.state(process, 1));
                }
                for (int v : new int[] {0, 2, 3, 4}) {
                    Checks.due("variable " + v, 0, () -> lab.state(5, v));
                }
            }
        });
        is("Terms", "also of a run behind another one", () -> {
            Lab lab = checked(1, 5, 15, 15, 15, 15, 15, 0, 9, 9, 9, 9, 9);
            lab.start(7);
            lab.round();
            lab.start(7);
            for (int v = 0; v < 5; v++) {
                int variable = v;
                Checks.due("variable " + v, 0, () -> lab.state(6, variable));
            }
        });
        is("Terms", "Round r (from 0) is of phase r modulo their number", EdgesOfRunsTest::phases);
        is("Terms", "all messages are made of the states before it", () -> {
            Lab lab = checked(withHead(101, 20, 37, 1, 20, 101, 31));
            lab.inputs(1, 2, 3);
            lab.start(3);
            for (int r = 0; r < 4; r++) {
                int before = r;
                lab.round();
                for (int p = 0; p < 3; p++) {
                    int process = p;
                    Checks.due("message", 1 + p + before * p, () -> lab.message(process));
                    Checks.due("greatest + 1", 4 + before * 2, () -> lab.state(process, 0));
                }
            }
        });
        is("Terms", "then all next states, ... at once", () -> {
            // Each variable takes the value that the next one has; the last one that of the first.
            Lab lab = checked(1, 5, 15, 15, 15, 15, 15, 101, 101, 102, 103, 104, 20, 100, 37);
            lab.inputs(3, 5);
            lab.start(2);
            lab.round();
            int[][] due = {{3, 0, 0, 0, 5}, {5, 0, 0, 0, 5}};
            for (int k = 0; k < 10; k++) {
                int p = k / 5;
                int v = k % 5;
                Checks.due("state(" + p + ", " + v + ")", due[p][v], () -> lab.state(p, v));
            }
            lab.round();
            Checks.due("variable 4", 3, () -> lab.state(0, 4));
            Checks.due("variable 3", 5, () -> lab.state(0, 3));
        });
        is("Terms", "what is above a range becomes that range", () -> {
            for (int range = 0; range <= 15; range++) {
                Lab lab = checked(1, 3, range, range, range, 0, 22, 15, 15, 20, range, 1, range);
                lab.start(1);
                lab.round();
                Checks.due("99", range, () -> lab.state(0, 0));
                Checks.due("one more", range, () -> lab.state(0, 1));
                Checks.due("the range", range, () -> lab.state(0, 2));
            }
        });
        is("Terms", "Variable 0 is the DECISION: 0 none, else the value + 1", () -> {
            for (int decision = 0; decision <= 15; decision++) {
                Lab lab = checked(withHead(0, decision, 9));
                lab.start(2);
                lab.round();
                Checks.due("decision " + decision, decision - 1, () -> lab.decided(1));
            }
        });
    }

    private static void phases() {
        for (int phases = 1; phases <= 4; phases++) {
            int[] words = {phases, 2, 15, 15};
            for (int phase = 0; phase < phases; phase++) {
                words = joined(words, new int[] {phase + 1, phase + 5, phase + 10});
            }
            Lab lab = checked(words);
            lab.start(1);
            for (int r = 0; r < 60; r++) {
                int phase = r % phases;
                lab.round();
                Checks.due("message of round " + r, phase + 1, () -> lab.message(0));
                Checks.due("variable 0 of round " + r, phase + 5, () -> lab.state(0, 0));
                Checks.due("variable 1 of round " + r, phase + 10, () -> lab.state(0, 1));
            }
            lab.start(1);
            lab.round();
            Checks.due("a new run begins with phase 0", 1, () -> lab.message(0));
        }
    }

    private static void hearings() {
        is("Terms", "A HEARING is a set for each (as bits of processes, not nec. itself)", () -> {
            Lab lab = checked(withHead(31, 20, 37, 1, 20, 36, 1));
            lab.start(7);
            for (int p = 0; p < 7; p++) {
                lab.hear(p, 1 << (p + 1) % 7);
            }
            lab.round();
            for (int p = 0; p < 7; p++) {
                int process = p;
                Checks.due("hears the next one", (p + 1) % 7 + 1, () -> lab.state(process, 0));
                Checks.due("hears no other one", (p + 1) % 7 + 1, () -> lab.state(process, 1));
            }
        });
    }

    private static void inputs() {
        is("Promise 7", "A process's input for runs that begin from now on", () -> {
            Lab lab = checked(HOW_MANY);
            lab.start(7);
            lab.input(6, 15);
            lab.input(0, 4);
            Checks.due("the run that is there", 0, () -> lab.state(6, 1));
            lab.round();
            Checks.due("its messages", 0, () -> lab.message(6));
            lab.start(7);
            Checks.due("the next run", 15, () -> lab.state(6, 1));
            Checks.due("the next run", 4, () -> lab.state(0, 1));
            Checks.due("another process", 0, () -> lab.state(1, 1));
            lab.start(1);
            Checks.due("one behind that", 4, () -> lab.state(0, 1));
        });
        is("Promise 7", "what it was", () -> {
            Lab lab = new Lab();
            for (int p : new int[] {0, 6}) {
                Checks.due("the first", 0, () -> lab.input(p, 15));
                Checks.due("the second", 15, () -> lab.input(p, 15));
                Checks.due("the third", 15, () -> lab.input(p, 0));
                Checks.due("the fourth", 0, () -> lab.input(p, 7));
            }
            Checks.due("another process", 0, () -> lab.input(3, 1));
        });
        is("Promise 7", "NoSuchElementException: p is not 0 .. 6", () -> {
            Lab run = checked(HOW_MANY);
            run.inputs(1, 2, 3, 4, 5, 6, 7);
            run.start(2);
            for (Lab lab : new Lab[] {new Lab(), run}) {
                for (int p : new int[] {LEAST, -1, 7, 8, GREATEST}) {
                    Checks.refused("input of " + p, Checks.NO_ELEMENT, lab, () -> lab.input(p, 0));
                    Checks.refused("input of " + p, Checks.NO_ELEMENT, lab, () -> lab.input(p, 16));
                }
                Checks.due("input of 6", lab == run ? 7 : 0, () -> lab.input(6, 9));
            }
        });
        is("Promise 7", "IllegalArgumentException: v is not 0 .. 15", () -> {
            Lab lab = new Lab();
            lab.input(6, 5);
            for (int v : new int[] {LEAST, -1, 16, 17, GREATEST}) {
                Checks.refused("input " + v, Checks.ARGUMENT, lab, () -> lab.input(6, v));
                Checks.refused("input " + v, Checks.ARGUMENT, lab, () -> lab.input(0, v));
            }
            Checks.due("it is what it was", 5, () -> lab.input(6, 15));
            Checks.due("15 is an input", 15, () -> lab.input(6, 0));
        });
    }

    private static void starts() {
        is("Promise 8", "A run of n processes begins", () -> {
            Lab lab = checked(HOW_MANY);
            for (int n : new int[] {7, 1, 3, 7, 2}) {
                lab.start(n);
                Checks.due("count(2)", n, () -> lab.count(2));
                Checks.due("count(3)", 0, () -> lab.count(3));
                Checks.due("hears all", (1 << n) - 1, () -> lab.hear(n - 1, 0));
                Checks.due("message", RoundLab.NONE, () -> lab.message(n - 1));
                Checks.due("variable 0", 0, () -> lab.state(0, 0));
                lab.rounds(3);
                Checks.due("variable 0", n, () -> lab.state(0, 0));
                lab.hear(0, 0);
            }
        });
        is("Promise 8", "IllegalArgumentException: n is not 1 .. 7", () -> {
            Lab run = checked(HOW_MANY);
            run.start(5);
            run.round();
            run.hear(4, 3);
            for (Lab lab : new Lab[] {new Lab(), of(HOW_MANY), checked(HOW_MANY), run}) {
                for (int n : new int[] {LEAST, -1, 0, 8, 9, GREATEST}) {
                    Checks.refused("start(" + n + ")", Checks.ARGUMENT, lab, () -> lab.start(n));
                }
            }
            Checks.due("the run that was there", 2, run::round);
        });
        is("Promise 8", "IllegalStateException: no checked program", () -> {
            Lab withError = of(HOW_MANY);
            withError.word(0);
            withError.check();
            Lab cleared = checked(HOW_MANY);
            cleared.clear();
            for (Lab lab : new Lab[] {new Lab(), of(HOW_MANY), withError, cleared}) {
                Checks.refused("start(1)", Checks.STATE, lab, () -> lab.start(1));
                Checks.refused("start(7)", Checks.STATE, lab, () -> lab.start(7));
            }
        });
    }

    private static void hears() {
        is("Promise 9", "The set that a process hears in the next round (all, if that is not told)", () -> {
            for (int n = 1; n <= 7; n++) {
                int all = n;
                Lab lab = checked(HOW_MANY);
                lab.start(n);
                lab.hear(0, 0);
                lab.round();
                Checks.due("none", 0, () -> lab.state(0, 0));
                Checks.due("not told", n == 1 ? 0 : n, () -> lab.state(all - 1, 0));
                lab.hear(all - 1, 1);
                lab.round();
                Checks.due("the first one alone", 1, () -> lab.state(all - 1, 0));
                lab.hear(0, 0);
                lab.hear(0, (1 << n) - 1);
                lab.round();
                Checks.due("what was told last", n, () -> lab.state(0, 0));
            }
        });
        is("Promise 9", "what it was", () -> {
            Lab lab = checked(HOW_MANY);
            lab.start(7);
            Checks.due("all at first", 127, () -> lab.hear(6, 64));
            Checks.due("one", 64, () -> lab.hear(6, 0));
            Checks.due("none", 0, () -> lab.hear(6, 127));
            Checks.due("all", 127, () -> lab.hear(6, 127));
            Checks.due("of another one", 127, () -> lab.hear(5, 1));
            Checks.due("as before", 127, () -> lab.hear(6, 2));
        });
        is("Promise 9", "NoSuchElementException: no run, or no such process", () -> {
            Lab gone = checked(HOW_MANY);
            gone.start(3);
            gone.check();
            for (Lab lab : new Lab[] {new Lab(), checked(HOW_MANY), gone}) {
                Checks.refused("hear(0, 0)", Checks.NO_ELEMENT, lab, () -> lab.hear(0, 0));
                Checks.refused("hear(0, -1)", Checks.NO_ELEMENT, lab, () -> lab.hear(0, -1));
            }
            for (int n = 1; n <= 7; n++) {
                Lab lab = checked(HOW_MANY);
                lab.start(n);
                for (int p : new int[] {LEAST, -1, n, 7, GREATEST}) {
                    Checks.refused("hear(" + p + ", 0)", Checks.NO_ELEMENT, lab, () -> lab.hear(p, 0));
                    Checks.refused("hear(" + p + ", 128)", Checks.NO_ELEMENT, lab, () -> lab.hear(p, 128));
                }
            }
        });
        is("Promise 9", "IllegalArgumentException: set has something else than its processes", () -> {
            for (int n = 1; n <= 7; n++) {
                Lab lab = checked(HOW_MANY);
                lab.start(n);
                lab.hear(0, 1);
                int more = 1 << n;
                for (int set : new int[] {LEAST, -1, -more, more, more | 1, 2 * more - 1, 256, GREATEST}) {
                    Checks.refused("hear(0, " + set + ")", Checks.ARGUMENT, lab, () -> lab.hear(0, set));
                }
                Checks.due("it is what it was", 1, () -> lab.hear(0, more - 1));
                Checks.due("all are a set", more - 1, () -> lab.hear(0, 0));
            }
        });
    }

    private static void rounds() {
        is("Promise 10", "behind it all hear all again", () -> {
            for (int n = 1; n <= 7; n++) {
                Lab lab = checked(HOW_MANY);
                lab.start(n);
                for (int p = 0; p < n; p++) {
                    lab.hear(p, 0);
                }
                lab.round();
                lab.round();
                for (int p = 0; p < n; p++) {
                    int process = p;
                    Checks.due("heard in the second round", n, () -> lab.state(process, 0));
                }
                lab.hear(0, 0);
                lab.round();
                Checks.due("what process 0 hears", (1 << n) - 1, () -> lab.hear(0, 0));
            }
        });
        is("Promise 10", "how many rounds were done", () -> {
            Lab lab = checked(HOW_MANY);
            lab.start(2);
            for (int r = 1; r <= 60; r++) {
                int done = r;
                Checks.due("round()", done, lab::round);
                Checks.due("count(3)", done, () -> lab.count(3));
            }
        });
        is("Promise 10", "IllegalStateException: no run", () -> {
            Lab gone = checked(HOW_MANY);
            gone.start(1);
            gone.round();
            gone.check();
            for (Lab lab : new Lab[] {new Lab(), of(HOW_MANY), checked(HOW_MANY), gone}) {
                Checks.refused("round()", Checks.STATE, lab, lab::round);
            }
        });
        is("Promise 10", "or 60 were done", () -> {
            Lab lab = checked(HOW_MANY);
            lab.start(7);
            Checks.due("round 60", 60, () -> lab.rounds(60));
            lab.hear(3, 5);
            Checks.refused("round 61", Checks.STATE, lab, lab::round);
            Checks.refused("again", Checks.STATE, lab, lab::round);
            Checks.due("what was told to hear", 5, () -> lab.hear(3, 5));
            lab.start(7);
            Checks.due("a new run", 1, lab::round);
        });
    }

    private static void states() {
        is("Promise 11", "A variable of a process", () -> {
            Lab lab = checked(1, 5, 15, 15, 15, 15, 15, 0, 31, 101, 32, 11, 35);
            lab.inputs(9, 8, 7, 6, 5, 4, 3);
            lab.start(7);
            lab.hear(6, 1);
            lab.round();
            int[][] due = {{0, 9, 7, 11, 7}, {6, 3, 7, 11, 1}};
            for (int v = 0; v < 5; v++) {
                int variable = v;
                Checks.due("of the first process", due[0][v], () -> lab.state(0, variable));
                Checks.due("of the last process", due[1][v], () -> lab.state(6, variable));
            }
        });
        is("Promise 11", "NoSuchElementException", () -> {
            for (int variables = 2; variables <= 5; variables++) {
                int[] words = joined(new int[] {1, variables}, new int[2 * variables + 1]);
                Lab lab = checked(words);
                lab.start(7);
                lab.start(4);
                for (int p : new int[] {LEAST, -1, 4, 6, 7, GREATEST}) {
                    Checks.refused("state of " + p, Checks.NO_ELEMENT, lab, () -> lab.state(p, 0));
                }
                for (int v : new int[] {LEAST, -1, variables, 5, 6, GREATEST}) {
                    Checks.refused("variable " + v, Checks.NO_ELEMENT, lab, () -> lab.state(3, v));
                }
                Checks.refused("neither", Checks.NO_ELEMENT, lab, () -> lab.state(4, 5));
            }
        });
        is("Promise 11", "also, if there is no run", () -> {
            for (Lab lab : withoutRun()) {
                Checks.refused("state(0, 0)", Checks.NO_ELEMENT, lab, () -> lab.state(0, 0));
                Checks.refused("state(-1, 9)", Checks.NO_ELEMENT, lab, () -> lab.state(-1, 9));
            }
        });
    }

    private static Lab[] withoutRun() {
        Lab checked = checked(HOW_MANY);
        checked.start(7);
        checked.check();
        Lab changed = checked(HOW_MANY);
        changed.start(7);
        changed.word(1);
        Lab replaced = checked(HOW_MANY);
        replaced.start(7);
        replaced.builtin(1);
        Lab cleared = checked(HOW_MANY);
        cleared.start(7);
        cleared.clear();
        return new Lab[] {new Lab(), checked(HOW_MANY), checked, changed, replaced, cleared};
    }

    private static void decisions() {
        is("Promise 12", "What a process has decided; NONE if nothing", () -> {
            Lab lab = checked(withHead(0, 101, 101));
            lab.inputs(0, 1, 2, 14, 15);
            lab.start(5);
            int[] due = {RoundLab.NONE, 0, 1, 13, 14};
            for (int p = 0; p < 5; p++) {
                int process = p;
                Checks.due("before", RoundLab.NONE, () -> lab.decided(process));
            }
            lab.round();
            for (int p = 0; p < 5; p++) {
                int process = p;
                Checks.due("behind a round", due[p], () -> lab.decided(process));
            }
        });
        is("Promise 12", "NoSuchElementException: likewise", () -> {
            for (Lab lab : withoutRun()) {
                Checks.refused("decided(0)", Checks.NO_ELEMENT, lab, () -> lab.decided(0));
            }
            for (int n = 1; n <= 7; n++) {
                Lab lab = checked(HOW_MANY);
                lab.start(7);
                lab.start(n);
                for (int p : new int[] {LEAST, -1, n, 7, GREATEST}) {
                    Checks.refused("decided(" + p + ")", Checks.NO_ELEMENT, lab, () -> lab.decided(p));
                }
            }
        });
    }

    private static void messages() {
        is("Promise 13", "The message of a process in the latest round", () -> {
            Lab lab = checked(withHead(22, 101, 15, 0, 20, 101, 1));
            lab.inputs(0, 6);
            lab.start(2);
            lab.hear(0, 0);
            lab.hear(1, 0);
            lab.round();
            Checks.due("a message 0", 0, () -> lab.message(0));
            Checks.due("a message that none hears", 90, () -> lab.message(1));
            lab.round();
            Checks.due("the next message", 15, () -> lab.message(0));
            Checks.due("the greatest message", 99, () -> lab.message(1));
            lab.explore(2, 1, 2, 0);
            Checks.due("a search is no round", 15, () -> lab.message(0));
        });
        is("Promise 13", "NONE before the first", () -> {
            Lab lab = checked(HOW_MANY);
            for (int n : new int[] {1, 7, 7}) {
                lab.start(n);
                for (int p = 0; p < n; p++) {
                    int process = p;
                    Checks.due("before", RoundLab.NONE, () -> lab.message(process));
                }
                lab.hear(0, 1);
                Checks.due("hear() is no round", RoundLab.NONE, () -> lab.message(0));
                lab.round();
                Checks.due("behind it", 0, () -> lab.message(n - 1));
            }
        });
        is("Promise 13", "NoSuchElementException: likewise", () -> {
            for (Lab lab : withoutRun()) {
                Checks.refused("message(0)", Checks.NO_ELEMENT, lab, () -> lab.message(0));
            }
            for (int n = 1; n <= 7; n++) {
                Lab lab = checked(HOW_MANY);
                lab.start(7);
                lab.round();
                lab.start(n);
                for (int p : new int[] {LEAST, -1, n, 7, GREATEST}) {
                    Checks.refused("message(" + p + ")", Checks.NO_ELEMENT, lab, () -> lab.message(p));
                }
                lab.round();
                int none = n;
                Checks.refused("behind a round", Checks.NO_ELEMENT, lab, () -> lab.message(none));
            }
        });
    }
}
