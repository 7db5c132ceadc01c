import java.util.Arrays;

/** Promises 1 to 6, 16 and what promise 17 counts of words: programs and their errors. */
public final class ProgramTest extends Programs {
    public static void main(String[] args) {
        newObject();
        words();
        builtins();
        clearing();
        whatEndsWithTheWords();
        heads();
        errorsInExpressions();
        missingAndTooMany();
        tooDeep();
        depths();
        depthRefusals();
        counts();
        Checks.finish();
    }

    private static void newObject() {
        Lab lab = new Lab();
        int[] due = {0, 0, 0, 0, 0, RoundLab.NONE};
        for (int what = 0; what < due.length; what++) {
            int k = what;
            Checks.due("new: count(" + k + ")", due[k], () -> lab.count(k));
        }
        Checks.refused("new: at(0)", Checks.NO_ELEMENT, lab, () -> lab.at(0));
        Checks.refused("new: trace(0)", Checks.NO_ELEMENT, lab, () -> lab.trace(0));
        Checks.refused("new: round()", Checks.STATE, lab, lab::round);
        Checks.refused("new: start(1)", Checks.STATE, lab, () -> lab.start(1));
        Checks.refused("new: explore", Checks.STATE, lab, () -> lab.explore(1, 0, 1, 0));
        for (int p = 0; p < 7; p++) {
            int process = p;
            Checks.due("new: input of " + p, 0, () -> lab.input(process, 0));
        }
    }

    private static void words() {
        Lab lab = new Lab();
        int[] odd = {Integer.MIN_VALUE, Integer.MAX_VALUE, -1, 0, 16};
        for (int i = 0; i < 400; i++) {
            int k = i;
            Checks.due("word number " + i, i + 1, () -> lab.word(odd[k % odd.length]));
        }
        for (int i = 0; i < 400; i += 7) {
            int k = i;
            Checks.due("at(" + i + ")", odd[i % odd.length], () -> lab.at(k));
        }
        Checks.refused("word 401", Checks.STATE, lab, () -> lab.word(1));
        Checks.due("at(399)", 16, () -> lab.at(399));
        Checks.refused("at(400)", Checks.NO_ELEMENT, lab, () -> lab.at(400));
        Checks.refused("at(-1)", Checks.NO_ELEMENT, lab, () -> lab.at(-1));
        Checks.refused("at(least)", Checks.NO_ELEMENT, lab, () -> lab.at(Integer.MIN_VALUE));
    }

    private static void builtins() {
        int[] deepOfMessage = {1, 1, 3};
        Lab lab = of(1, 2, 3);
        for (int k = 0; k < BUILTINS.length; k++) {
            int which = k;
            int[] due = BUILTINS[k];
            Checks.due("builtin(" + k + ")", due.length, () -> lab.builtin(which));
            Checks.due("its words", due.length, () -> lab.count(0));
            for (int i = 0; i < due.length; i++) {
                int place = i;
                Checks.due("builtin " + k + " at " + i, due[i], () -> lab.at(place));
            }
            Checks.due("not checked yet", 0, () -> lab.count(1));
            Checks.due("check() of builtin " + k, 0, lab::check);
            Checks.due("its message's depth", deepOfMessage[k], () -> lab.deep(0, -1));
        }
        lab.start(2);
        for (int k : new int[] {-1, 3, Integer.MAX_VALUE, Integer.MIN_VALUE}) {
            Checks.refused("builtin(" + k + ")", Checks.NO_ELEMENT, lab, () -> lab.builtin(k));
        }
    }

    private static void clearing() {
        Lab lab = of(7, 8, 9);
        lab.input(3, 11);
        Checks.due("clear() of three", 3, lab::clear);
        Checks.due("clear() of none", 0, lab::clear);
        Checks.due("count(0) after clear()", 0, () -> lab.count(0));
        Checks.refused("at(0) after clear()", Checks.NO_ELEMENT, lab, () -> lab.at(0));
        Checks.due("an input stays", 11, () -> lab.input(3, 0));
        Checks.due("word after clear()", 1, () -> lab.word(5));
    }

    private static void whatEndsWithTheWords() {
        for (int way = 0; way < 4; way++) {
            Lab lab = checked(BUILTINS[0]);
            lab.explore(2, 1, 2, 0);
            lab.start(3);
            lab.round();
            int how = way;
            int[] due = {35, 34, 34, 0};
            Checks.due("way " + way, due[way], () -> change(lab, how));
            Checks.due("checked after way " + way, how == 2 ? 1 : 0, () -> lab.count(1));
            Checks.due("processes after way " + way, 0, () -> lab.count(2));
            Checks.due("rounds after way " + way, 0, () -> lab.count(3));
            Checks.refused("state after way " + way, Checks.NO_ELEMENT, lab, () -> lab.state(0, 0));
            Checks.refused("round after way " + way, Checks.STATE, lab, lab::round);
            if (how != 2) {
                Checks.refused("deep after way " + way, Checks.STATE, lab, () -> lab.deep(0, 0));
                Checks.refused("start after way " + way, Checks.STATE, lab, () -> lab.start(1));
                Checks.refused("explore after way " + way, Checks.STATE, lab,
                        () -> lab.explore(1, 1, 1, 0));
            }
        }
    }

    private static int change(Lab lab, int way) {
        switch (way) {
            case 0:
                return lab.word(0);
            case 1:
                return lab.builtin(0);
            case 2:
                return lab.check() + lab.count(0);
            default:
                lab.clear();
                return lab.count(0);
        }
    }

    private static void heads() {
        errorAt(1);
        for (int phases : new int[] {0, 5, -1, Integer.MIN_VALUE, Integer.MAX_VALUE}) {
            errorAt(1, phases, 2, 1, 1, 0, 0, 0);
        }
        errorAt(2, 1);
        for (int variables : new int[] {1, 6, 0, -1, Integer.MAX_VALUE}) {
            errorAt(2, 1, variables, 1, 1, 0, 0, 0);
        }
        errorAt(1, 0, 9, 99);
        errorAt(3, 1, 2);
        errorAt(3, 1, 2, 16, 0, 0, 0, 0);
        errorAt(3, 1, 2, -1, 0, 0, 0, 0);
        errorAt(4, 1, 2, 0);
        errorAt(4, 1, 2, 0, 16, 0, 0, 0);
        errorAt(7, 1, 5, 0, 0, 0, 0);
        errorAt(7, 1, 5, 0, 0, 0, 0, 16);
        errorAt(0, 1, 2, 0, 15, 0, 0, 0);
        errorAt(0, 1, 5, 0, 1, 2, 3, 4, 0, 0, 0, 0, 0, 0);
        errorAt(0, 4, 2, 1, 1, 0, 0, 0, 0, 0, 0, 0, 0, 0, 0, 0, 0);
        errorAt(16, 4, 2, 1, 1, 0, 0, 0, 0, 0, 0, 0, 0, 0, 0, 0);
    }

    /** Every word from -3 to 120 as a message and as a next value, with as many parts as it has. */
    private static void errorsInExpressions() {
        for (int word = -3; word <= 120; word++) {
            int parts = word >= 20 && word <= 28 ? 2 : word == 30 ? 3
                    : word == 29 || word == 40 || word == 41 ? 1 : 0;
            boolean anywhere = word >= 0 && word <= 15 || word == 100 || word == 101
                    || word >= 20 && word <= 34;
            boolean hearing = word >= 35 && word <= 41;
            int[] message = new int[1 + parts + 2];
            message[0] = word;
            errorAt(anywhere ? 0 : 5, withHead(message));
            int[] next = new int[2 + 1 + parts];
            next[2] = word;
            errorAt(anywhere || hearing ? 0 : 7, withHead(next));
        }
        for (int word : new int[] {Integer.MAX_VALUE, Integer.MIN_VALUE, 100 + Integer.MAX_VALUE}) {
            errorAt(5, withHead(word, 0, 0));
        }
        errorAt(0, 1, 5, 0, 0, 0, 0, 0, 104, 104, 104, 104, 104, 104);
        errorAt(8, 1, 5, 0, 0, 0, 0, 0, 105, 0, 0, 0, 0, 0);
        errorAt(7, withHead(20, 1, 35, 0, 0));
        errorAt(9, withHead(0, 20, 1, 40, 42, 16));
        errorAt(8, 2, 2, 1, 1, 0, 35, 36, 35, 0, 0);
    }

    private static void missingAndTooMany() {
        errorAt(5, withHead());
        errorAt(6, withHead(0));
        errorAt(7, withHead(0, 0));
        errorAt(8, withHead(0, 0, 0, 0));
        errorAt(8, withHead(0, 0, 0, -5, 99));
        errorAt(8, withHead(0, 0, 30));
        errorAt(11, withHead(0, 0, 30, 1, 20, 1));
        int[] full = new int[400];
        System.arraycopy(new int[] {4, 5, 0, 0, 0, 0, 0}, 0, full, 0, 7);
        errorAt(32, full);
        for (int k = 0; k < BUILTINS.length; k++) {
            int[] words = BUILTINS[k];
            for (int size = 0; size < words.length; size++) {
                errorAt(size + 1, Arrays.copyOf(words, size));
            }
            errorAt(words.length + 1, Arrays.copyOf(words, words.length + 1));
        }
    }

    private static void tooDeep() {
        int[] two = {0, 0};
        errorAt(0, joined(HEAD, nots(11, 1), two));
        errorAt(17, joined(HEAD, nots(12, 1), two));
        errorAt(17, joined(HEAD, nots(12, 77), two));
        errorAt(17, joined(HEAD, nots(20, 1), two));
        errorAt(19, joined(HEAD, two, nots(12, 1)));
        errorAt(0, joined(HEAD, two, nots(11, 35)));
        errorAt(17, joined(HEAD, Arrays.copyOf(nots(12, 0), 12)));
        errorAt(0, joined(HEAD, new int[] {20, 0}, nots(10, 1), two));
        errorAt(18, joined(HEAD, new int[] {20, 0}, nots(11, 1), two));
        errorAt(29, joined(HEAD, new int[] {30, 0}, nots(10, 1), nots(11, 42), two));
    }

    private static void depths() {
        Lab lab = checked(joined(new int[] {2, 2, 1, 1}, nots(11, 1), new int[] {100},
                nots(1, 35), new int[] {30, 1, 20, 1, 29, 1, 0}, nots(4, 38), new int[] {41, 34}));
        int[][] due = {{12, 1, 2}, {4, 5, 2}};
        for (int phase = 0; phase < 2; phase++) {
            for (int part = -1; part < 2; part++) {
                int h = phase;
                int t = part;
                Checks.due("deep(" + h + ", " + t + ")", due[h][t + 1], () -> lab.deep(h, t));
            }
        }
        lab.builtin(2);
        lab.check();
        Checks.due("deep(0, 3)", 5, () -> lab.deep(0, 3));
        Checks.due("deep(2, 4)", 5, () -> lab.deep(2, 4));
        Checks.due("deep(3, 0)", 3, () -> lab.deep(3, 0));
        Checks.due("deep(3, 4)", 1, () -> lab.deep(3, 4));
    }

    private static void depthRefusals() {
        Lab lab = of(BUILTINS[1]);
        Checks.refused("deep, not checked", Checks.STATE, lab, () -> lab.deep(0, 0));
        Checks.refused("deep, not checked, no phase", Checks.STATE, lab, () -> lab.deep(9, 9));
        lab.check();
        Checks.refused("deep(-1, 0)", Checks.NO_ELEMENT, lab, () -> lab.deep(-1, 0));
        Checks.refused("deep(2, 0)", Checks.NO_ELEMENT, lab, () -> lab.deep(2, 0));
        Checks.refused("deep(0, 3)", Checks.NO_ELEMENT, lab, () -> lab.deep(0, 3));
        Checks.refused("deep(0, -2)", Checks.NO_ELEMENT, lab, () -> lab.deep(0, -2));
        Checks.refused("deep(greatest, least)", Checks.NO_ELEMENT, lab,
                () -> lab.deep(Integer.MAX_VALUE, Integer.MIN_VALUE));
        lab.word(0);
        lab.check();
        Checks.refused("deep, with an error", Checks.STATE, lab, () -> lab.deep(0, 0));
    }

    private static void counts() {
        Lab lab = checked(BUILTINS[0]);
        lab.start(4);
        for (int what : new int[] {-1, 6, Integer.MAX_VALUE, Integer.MIN_VALUE}) {
            Checks.refused("count(" + what + ")", Checks.ARGUMENT, lab, () -> lab.count(what));
        }
    }
}
