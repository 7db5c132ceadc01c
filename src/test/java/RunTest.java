/** Promises 7 to 13, and what promise 17 counts of a run. */
public final class RunTest extends Programs {
    /** Message 101; variable 0 keeps the greatest message + 1, variable 1 the least one. */
    private static final int[] GREATEST_AND_LEAST = {1, 2, 15, 12, 101, 20, 37, 1, 36};

    public static void main(String[] args) {
        inputs();
        inputsAreForLaterRuns();
        starts();
        hearings();
        hearingIsForOneRound();
        roundsAreAtOnce();
        phasesGoRound();
        rangesCut();
        sixtyRounds();
        noRun();
        wrongProcesses();
        decisions();
        messages();
        searchLeavesTheRun();
        Checks.finish();
    }

    private static void inputs() {
        Lab lab = new Lab();
        for (int p = 0; p < 7; p++) {
            int process = p;
            Checks.due("input, first", 0, () -> lab.input(process, process + 9));
        }
        for (int p = 0; p < 7; p++) {
            int process = p;
            Checks.due("input, second", p + 9, () -> lab.input(process, 0));
            Checks.due("input, third", 0, () -> lab.input(process, 3));
        }
        for (int p : new int[] {-1, 7, Integer.MIN_VALUE, Integer.MAX_VALUE}) {
            Checks.refused("input of " + p, Checks.NO_ELEMENT, lab, () -> lab.input(p, 1));
            Checks.refused("input of " + p + ", 16", Checks.NO_ELEMENT, lab, () -> lab.input(p, 16));
        }
        for (int v : new int[] {-1, 16, Integer.MIN_VALUE, Integer.MAX_VALUE}) {
            Checks.refused("input " + v, Checks.ARGUMENT, lab, () -> lab.input(6, v));
        }
    }

    private static void inputsAreForLaterRuns() {
        Lab lab = checked(GREATEST_AND_LEAST);
        lab.inputs(4, 12, 13, 15);
        lab.start(4);
        lab.input(0, 9);
        int[] due = {4, 12, 12, 12};
        for (int p = 0; p < 4; p++) {
            int process = p;
            Checks.due("an input, cut", due[p], () -> lab.state(process, 1));
            Checks.due("nothing else", 0, () -> lab.state(process, 0));
        }
        lab.start(1);
        Checks.due("the input of a later run", 9, () -> lab.state(0, 1));
        Checks.due("an input is kept as told", 15, () -> lab.input(3, 0));
        lab.builtin(0);
        lab.check();
        lab.start(2);
        Checks.due("inputs outlast the words", 3, () -> lab.state(0, 1));
    }

    private static void starts() {
        Lab lab = checked(GREATEST_AND_LEAST);
        for (int n = 1; n <= 7; n++) {
            int all = n;
            lab.start(n);
            lab.round();
            lab.hear(0, 0);
            lab.start(n);
            Checks.due("processes", n, () -> lab.count(2));
            Checks.due("rounds of a new run", 0, () -> lab.count(3));
            Checks.due("message of a new run", RoundLab.NONE, () -> lab.message(all - 1));
            Checks.due("hearing of a new run", (1 << n) - 1, () -> lab.hear(0, 0));
            Checks.due("decision of a new run", RoundLab.NONE, () -> lab.decided(0));
        }
        for (int n : new int[] {0, -1, 8, Integer.MIN_VALUE, Integer.MAX_VALUE}) {
            Checks.refused("start(" + n + ")", Checks.ARGUMENT, lab, () -> lab.start(n));
        }
        lab.word(0);
        Checks.refused("start(0), not checked", Checks.ARGUMENT, lab, () -> lab.start(0));
        Checks.refused("start(2), not checked", Checks.STATE, lab, () -> lab.start(2));
        lab.check();
        Checks.refused("start(2), with an error", Checks.STATE, lab, () -> lab.start(2));
    }

    private static void hearings() {
        Lab lab = checked(GREATEST_AND_LEAST);
        lab.start(5);
        Checks.due("hear, first", 31, () -> lab.hear(2, 0));
        Checks.due("hear, second", 0, () -> lab.hear(2, 31));
        Checks.due("hear, third", 31, () -> lab.hear(2, 17));
        Checks.due("hear, another one", 31, () -> lab.hear(4, 1));
        for (int set : new int[] {32, 63, -1, Integer.MIN_VALUE, Integer.MAX_VALUE, 32 | 17}) {
            Checks.refused("hear " + set, Checks.ARGUMENT, lab, () -> lab.hear(2, set));
        }
        Checks.refused("hear of 5", Checks.NO_ELEMENT, lab, () -> lab.hear(5, 1));
        Checks.refused("hear of -1", Checks.NO_ELEMENT, lab, () -> lab.hear(-1, 1));
        Checks.refused("hear of 5, 32", Checks.NO_ELEMENT, lab, () -> lab.hear(5, 32));
        Checks.due("hear, at last", 17, () -> lab.hear(2, 3));
    }

    private static void hearingIsForOneRound() {
        Lab lab = checked(GREATEST_AND_LEAST);
        lab.inputs(7, 3, 5);
        lab.start(3);
        lab.hear(0, 0b100);
        lab.hear(1, 0);
        lab.hear(2, 0b001);
        Checks.due("round()", 1, lab::round);
        Checks.due("hears process 2 alone", 5, () -> lab.state(0, 1));
        Checks.due("hears none", 0, () -> lab.state(1, 1));
        Checks.due("hears none: GREATEST + 1", 1, () -> lab.state(1, 0));
        Checks.due("hears process 0 alone", 7, () -> lab.state(2, 1));
        for (int p = 0; p < 3; p++) {
            int process = p;
            Checks.due("all hear all again", 7, () -> lab.hear(process, 7));
        }
        Checks.due("round()", 2, lab::round);
        Checks.due("hears all", 8, () -> lab.state(1, 0));
        Checks.due("hears all", 0, () -> lab.state(2, 1));
    }

    /** Two variables change places, and processes hand their values on round a ring. */
    private static void roundsAreAtOnce() {
        Lab lab = checked(1, 3, 15, 15, 15, 101, 0, 102, 101);
        lab.input(0, 9);
        lab.start(1);
        lab.round();
        Checks.due("changed places: 1", 0, () -> lab.state(0, 1));
        Checks.due("changed places: 2", 9, () -> lab.state(0, 2));
        Lab ring = checked(1, 2, 15, 15, 101, 0, 41, 24, 20, 31, 1, 32);
        ring.inputs(1, 2, 3);
        ring.start(3);
        ring.round();
        for (int p = 0; p < 3; p++) {
            int process = p;
            Checks.due("handed on", (p + 1) % 3 + 1, () -> ring.state(process, 1));
            Checks.due("of the state before", p + 1, () -> ring.message(process));
        }
    }

    private static void phasesGoRound() {
        Lab lab = checked(3, 2, 15, 15, 1, 4, 101, 2, 5, 101, 3, 6, 101);
        lab.start(2);
        for (int r = 0; r < 7; r++) {
            int done = r + 1;
            Checks.due("round()", done, lab::round);
            Checks.due("count(3)", done, () -> lab.count(3));
            Checks.due("message in round " + r, r % 3 + 1, () -> lab.message(1));
            Checks.due("next value in round " + r, r % 3 + 4, () -> lab.state(1, 0));
        }
    }

    private static void rangesCut() {
        Lab lab = checked(1, 5, 0, 1, 4, 15, 7, 22, 9, 9, 15, 15, 4, 22, 9, 9, 8);
        lab.input(0, 15);
        lab.start(1);
        Checks.due("an input, cut to 1", 1, () -> lab.state(0, 1));
        lab.round();
        Checks.due("a message is not cut", 81, () -> lab.message(0));
        int[] due = {0, 1, 4, 15, 7};
        for (int v = 0; v < 5; v++) {
            int variable = v;
            Checks.due("variable " + v + ", cut", due[v], () -> lab.state(0, variable));
        }
        Checks.due("range 0 decides nothing", RoundLab.NONE, () -> lab.decided(0));
    }

    private static void sixtyRounds() {
        Lab lab = checked(GREATEST_AND_LEAST);
        lab.start(7);
        Checks.due("sixty rounds", 60, () -> lab.rounds(60));
        Checks.refused("round 61", Checks.STATE, lab, lab::round);
        Checks.due("count(3)", 60, () -> lab.count(3));
        lab.start(7);
        Checks.due("a new run goes on", 1, lab::round);
    }

    private static void noRun() {
        Lab lab = checked(GREATEST_AND_LEAST);
        Checks.refused("hear", Checks.NO_ELEMENT, lab, () -> lab.hear(0, 0));
        Checks.refused("hear, no set", Checks.NO_ELEMENT, lab, () -> lab.hear(0, -1));
        Checks.refused("round", Checks.STATE, lab, lab::round);
        Checks.refused("state", Checks.NO_ELEMENT, lab, () -> lab.state(0, 0));
        Checks.refused("decided", Checks.NO_ELEMENT, lab, () -> lab.decided(0));
        Checks.refused("message", Checks.NO_ELEMENT, lab, () -> lab.message(0));
        Checks.due("count(2)", 0, () -> lab.count(2));
        Checks.due("count(3)", 0, () -> lab.count(3));
    }

    private static void wrongProcesses() {
        Lab lab = checked(GREATEST_AND_LEAST);
        lab.start(7);
        lab.start(3);
        lab.round();
        for (int p : new int[] {-1, 3, 6, 7, Integer.MIN_VALUE, Integer.MAX_VALUE}) {
            Checks.refused("state of " + p, Checks.NO_ELEMENT, lab, () -> lab.state(p, 0));
            Checks.refused("decided of " + p, Checks.NO_ELEMENT, lab, () -> lab.decided(p));
            Checks.refused("message of " + p, Checks.NO_ELEMENT, lab, () -> lab.message(p));
            Checks.refused("hear of " + p, Checks.NO_ELEMENT, lab, () -> lab.hear(p, 1));
        }
        for (int v : new int[] {-1, 2, 4, 5, Integer.MIN_VALUE, Integer.MAX_VALUE}) {
            Checks.refused("variable " + v, Checks.NO_ELEMENT, lab, () -> lab.state(2, v));
        }
    }

    private static void decisions() {
        Lab lab = checked(1, 2, 15, 15, 0, 101, 101);
        lab.inputs(0, 1, 15);
        lab.start(3);
        Checks.due("decided, before", RoundLab.NONE, () -> lab.decided(2));
        lab.round();
        Checks.due("decided: 0 is none", RoundLab.NONE, () -> lab.decided(0));
        Checks.due("decided: 1 is value 0", 0, () -> lab.decided(1));
        Checks.due("decided: 15 is value 14", 14, () -> lab.decided(2));
        Checks.due("its variable", 15, () -> lab.state(2, 0));
    }

    private static void messages() {
        Lab lab = checked(1, 2, 15, 15, 20, 22, 8, 12, 100, 20, 100, 1, 101);
        lab.start(2);
        Checks.due("message, before", RoundLab.NONE, () -> lab.message(0));
        lab.hear(0, 0);
        lab.round();
        Checks.due("message, round 0", 96, () -> lab.message(0));
        Checks.due("message that not all hear", 96, () -> lab.message(1));
        lab.rounds(2);
        Checks.due("message, round 2", 98, () -> lab.message(0));
        lab.rounds(3);
        Checks.due("message, round 5", 99, () -> lab.message(0));
    }

    private static void searchLeavesTheRun() {
        Lab lab = checked(GREATEST_AND_LEAST);
        lab.inputs(4, 9);
        lab.start(2);
        lab.round();
        lab.hear(1, 1);
        lab.explore(3, 5, 3, 0);
        Checks.due("processes", 2, () -> lab.count(2));
        Checks.due("rounds", 1, () -> lab.count(3));
        Checks.due("state", 10, () -> lab.state(0, 0));
        Checks.due("message", 9, () -> lab.message(1));
        Checks.due("hearing", 1, () -> lab.hear(1, 3));
        Checks.due("input", 9, () -> lab.input(1, 9));
    }
}
