/**
 * 'EXCEPTIONS: ... Such a call changes nothing': each call that is refused, in each state of an
 * object in which it is, with the exception that comes first if there are two.
 */
public final class RefusalTest extends Programs {
    private static final int LEAST = Integer.MIN_VALUE;
    private static final int GREATEST = Integer.MAX_VALUE;

    /** An object, and what of it decides which calls are refused. */
    private record Scene(String name, Lab lab, int words, int phases, int variables, int processes,
            int roundsDone, int traceLength) {
        boolean isChecked() {
            return phases > 0;
        }

        boolean hasRun() {
            return processes > 0;
        }
    }

    /** A call that is refused, on whichever object. */
    private interface Refused {
        int on(Lab lab);
    }

    public static void main(String[] args) {
        for (Scene scene : new Scene[] {newObject(), notChecked(), withError(), noRun(), beginning(),
            inTheMiddle(), sixtyRounds(), full(), fullWithoutProgram()}) {
            Checks.sentence("Terms", "Such a call changes nothing: " + scene.name(), () -> all(scene));
        }
        Checks.sentence("Terms", "Such a call changes nothing: many of them", RefusalTest::many);
        Checks.finish();
    }

    private static Scene newObject() {
        return new Scene("a new object", new Lab(), 0, 0, 0, 0, 0, 0);
    }

    /** Voting, with the inputs 1 .. 7, and a search that found two different decisions. */
    private static Lab voting() {
        Lab lab = new Lab();
        lab.builtin(1);
        lab.inputs(1, 2, 3, 4, 5, 6, 7);
        lab.check();
        Checks.due("a violation", 1, () -> lab.explore(2, 4, 2, 0));
        return lab;
    }

    private static Scene notChecked() {
        Lab lab = voting();
        lab.start(3);
        lab.word(0);
        return new Scene("words that are not checked", lab, BUILTINS[1].length + 1, 0, 0, 0, 0, 6);
    }

    private static Scene withError() {
        Lab lab = voting();
        lab.word(0);
        lab.check();
        return new Scene("words with an error", lab, BUILTINS[1].length + 1, 0, 0, 0, 0, 6);
    }

    private static Scene noRun() {
        Lab lab = voting();
        Checks.due("more than 200 states", RoundLab.NONE, () -> lab.explore(3, 5, 3, 0));
        return new Scene("a checked program without a run", lab, BUILTINS[1].length, 2, 3, 0, 0, 0);
    }

    private static Scene beginning() {
        Lab lab = voting();
        lab.start(1);
        return new Scene("a run that begins", lab, BUILTINS[1].length, 2, 3, 1, 0, 6);
    }

    private static Scene inTheMiddle() {
        Lab lab = voting();
        lab.builtin(2);
        lab.check();
        lab.start(5);
        lab.hear(0, 3);
        lab.rounds(6);
        lab.hear(1, 0);
        lab.hear(4, 9);
        return new Scene("a run in the middle", lab, BUILTINS[2].length, 4, 5, 5, 6, 6);
    }

    private static Scene sixtyRounds() {
        Lab lab = voting();
        lab.start(7);
        lab.rounds(60);
        lab.hear(6, 1);
        return new Scene("sixty rounds", lab, BUILTINS[1].length, 2, 3, 7, 60, 6);
    }

    private static Scene full() {
        Lab lab = checked(full(9));
        lab.input(2, 5);
        lab.explore(1, 1, 1, 0);
        lab.start(3);
        lab.rounds(4);
        lab.hear(2, 4);
        return new Scene("400 words, with a run", lab, 400, 4, 5, 3, 4, 0);
    }

    private static Scene fullWithoutProgram() {
        Lab lab = of(new int[400]);
        lab.check();
        return new Scene("400 words without a program", lab, 400, 0, 0, 0, 0, 0);
    }

    private static void refused(Scene scene, String what, Class<? extends RuntimeException> want,
            Refused call) {
        Lab lab = scene.lab().twin();
        Checks.refused(what, want, lab, () -> call.on(lab));
    }

    private static void all(Scene scene) {
        words(scene);
        depths(scene);
        inputs(scene);
        runs(scene);
        hearings(scene);
        looks(scene);
        searches(scene);
    }

    private static void words(Scene scene) {
        if (scene.words() == 400) {
            for (int w : new int[] {0, 1, LEAST, GREATEST}) {
                refused(scene, "word(" + w + ")", Checks.STATE, lab -> lab.word(w));
            }
        }
        for (int k : new int[] {-1, 3, LEAST, GREATEST}) {
            refused(scene, "builtin(" + k + ")", Checks.NO_ELEMENT, lab -> lab.builtin(k));
        }
        for (int i : new int[] {-1, scene.words(), 400, LEAST, GREATEST}) {
            refused(scene, "at(" + i + ")", Checks.NO_ELEMENT, lab -> lab.at(i));
        }
        for (int what : new int[] {-1, 6, LEAST, GREATEST}) {
            refused(scene, "count(" + what + ")", Checks.ARGUMENT, lab -> lab.count(what));
        }
    }

    private static void depths(Scene scene) {
        int[][] wrong = {{-1, 0}, {scene.phases(), 0}, {0, -2}, {0, scene.variables()}, {4, 5},
            {LEAST, LEAST}, {GREATEST, GREATEST}};
        for (int[] call : wrong) {
            refused(scene, "deep(" + call[0] + ", " + call[1] + ")",
                    scene.isChecked() ? Checks.NO_ELEMENT : Checks.STATE,
                    lab -> lab.deep(call[0], call[1]));
        }
        if (!scene.isChecked()) {
            refused(scene, "deep(0, -1)", Checks.STATE, lab -> lab.deep(0, -1));
            refused(scene, "deep(0, 0)", Checks.STATE, lab -> lab.deep(0, 0));
        }
    }

    private static void inputs(Scene scene) {
        for (int p : new int[] {-1, 7, LEAST, GREATEST}) {
            for (int v : new int[] {0, 15, -1, 16}) {
                refused(scene, "input(" + p + ", " + v + ")", Checks.NO_ELEMENT, lab -> lab.input(p, v));
            }
        }
        for (int p : new int[] {0, 6}) {
            for (int v : new int[] {-1, 16, LEAST, GREATEST}) {
                refused(scene, "input(" + p + ", " + v + ")", Checks.ARGUMENT, lab -> lab.input(p, v));
            }
        }
    }

    private static void runs(Scene scene) {
        for (int n : new int[] {-1, 0, 8, LEAST, GREATEST}) {
            refused(scene, "start(" + n + ")", Checks.ARGUMENT, lab -> lab.start(n));
        }
        for (int n = 1; n <= 7 && !scene.isChecked(); n++) {
            int number = n;
            refused(scene, "start(" + n + ")", Checks.STATE, lab -> lab.start(number));
        }
        if (!scene.hasRun() || scene.roundsDone() == 60) {
            refused(scene, "round()", Checks.STATE, Lab::round);
        }
    }

    private static void hearings(Scene scene) {
        int n = scene.processes();
        for (int p : new int[] {-1, n, 7, LEAST, GREATEST}) {
            for (int set : new int[] {0, 1, 1 << n, -1}) {
                refused(scene, "hear(" + p + ", " + set + ")", Checks.NO_ELEMENT, lab -> lab.hear(p, set));
            }
        }
        for (int set : new int[] {1 << n, 1 << n | 1, -1, 128, LEAST, GREATEST}) {
            if (scene.hasRun()) {
                refused(scene, "hear(0, " + set + ")", Checks.ARGUMENT, lab -> lab.hear(0, set));
            }
        }
    }

    private static void looks(Scene scene) {
        for (int p : new int[] {-1, scene.processes(), 7, LEAST, GREATEST}) {
            refused(scene, "state(" + p + ", 0)", Checks.NO_ELEMENT, lab -> lab.state(p, 0));
            refused(scene, "decided(" + p + ")", Checks.NO_ELEMENT, lab -> lab.decided(p));
            refused(scene, "message(" + p + ")", Checks.NO_ELEMENT, lab -> lab.message(p));
        }
        for (int v : new int[] {-1, scene.variables(), 5, LEAST, GREATEST}) {
            refused(scene, "state(0, " + v + ")", Checks.NO_ELEMENT, lab -> lab.state(0, v));
        }
        for (int i : new int[] {-1, scene.traceLength(), 18, LEAST, GREATEST}) {
            refused(scene, "trace(" + i + ")", Checks.NO_ELEMENT, lab -> lab.trace(i));
        }
    }

    private static void searches(Scene scene) {
        int[][] wrong = {{0, 1, 1, 0}, {4, 1, 1, 0}, {1, -1, 1, 0}, {1, 6, 1, 0}, {1, 1, 0, 0},
            {1, 1, 4, 0}, {1, 1, 1, -1}, {1, 1, 1, 4}, {LEAST, LEAST, LEAST, LEAST},
            {GREATEST, GREATEST, GREATEST, GREATEST}};
        for (int[] call : wrong) {
            refused(scene, "explore by " + call[0] + ", " + call[1] + ", " + call[2] + ", " + call[3],
                    Checks.ARGUMENT, lab -> lab.explore(call[0], call[1], call[2], call[3]));
        }
        if (!scene.isChecked()) {
            refused(scene, "explore", Checks.STATE, lab -> lab.explore(1, 0, 1, 0));
            refused(scene, "explore", Checks.STATE, lab -> lab.explore(3, 5, 3, 3));
        }
    }

    /** Two objects go through the same calls, one of them with refused ones between all of these. */
    private static void many() {
        Lab plain = new Lab();
        Lab other = new Lab();
        both(plain, other, lab -> lab.builtin(2));
        both(plain, other, Lab::check);
        for (int p = 0; p < 5; p++) {
            int process = p;
            both(plain, other, lab -> lab.input(process, process % 4));
        }
        both(plain, other, lab -> lab.start(5));
        for (int r = 0; r < 8; r++) {
            int set = 31 - r;
            both(plain, other, lab -> lab.hear(set % 5, set));
            both(plain, other, Lab::round);
            both(plain, other, lab -> lab.decided(set % 5));
            both(plain, other, lab -> lab.message(set % 5));
            both(plain, other, lab -> lab.state(set % 5, 2));
        }
        both(plain, other, lab -> lab.explore(2, 5, 2, 0));
        both(plain, other, lab -> lab.count(4));
        both(plain, other, lab -> lab.count(5));
        both(plain, other, lab -> lab.trace(3));
        both(plain, other, Lab::round);
    }

    private static void both(Lab plain, Lab other, Refused call) {
        Checks.compare("call " + plain.calls(), Checks.answer(() -> call.on(plain)),
                Checks.answer(() -> call.on(other)));
        Refused[] wrong = {lab -> lab.builtin(3), lab -> lab.input(0, 16), lab -> lab.start(8),
            lab -> lab.hear(9, 0), lab -> lab.explore(3, 5, 4, 0), lab -> lab.count(9)};
        for (Refused one : wrong) {
            String got = Checks.answer(() -> one.on(other));
            Checks.compare("refused behind call " + plain.calls(), "refused",
                    got.endsWith("Exception") ? "refused" : got);
        }
    }
}
