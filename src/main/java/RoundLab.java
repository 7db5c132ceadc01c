import java.util.Arrays;
import java.util.NoSuchElementException;

/**
 * A laboratory for processes that go on by rounds: programs of words, runs made by hand, and a
 * search through all runs of few processes for a decision that must not be.
 */
public final class RoundLab {
    public static final int NONE = -1;

    private static final int MOST_WORDS = 400;
    private static final int MOST_PHASES = 4;
    private static final int MOST_VARIABLES = 5;
    private static final int MOST_PROCESSES = 7;
    private static final int MOST_ROUNDS = 60;
    private static final int MOST_DEPTH = 12;
    private static final int GREATEST_NUMBER = 15;
    private static final int GREATEST_RESULT = 99;

    private static final int DECISION = 0;
    private static final int GIVEN = 1;

    private static final int MOST_SEARCHED_PROCESSES = 3;
    private static final int MOST_SEARCHED_ROUNDS = 5;
    private static final int MOST_SEARCHED_INPUTS = 3;
    private static final int MOST_STATES = 200;
    private static final int LAST_KIND = 3;

    private static final int[] ONE_THIRD_RULE = {
        1, 2, 4, 3,
        101,
        30, 100, 100, 30, 26, 20, 32, 32, 20, 39, 20, 39, 39, 20, 38, 1, 0,
        30, 26, 20, 32, 32, 20, 35, 20, 35, 35, 38, 101
    };

    private static final int[] VOTING = {
        2, 3, 4, 3, 4,
        101,
        100,
        36,
        30, 27, 35, 25, 39, 35, 20, 38, 1, 0,
        20, 22, 4, 102, 101,
        30, 100, 100, 30, 27, 25, 23, 36, 4, 23, 37, 4, 23, 36, 4, 23, 37, 4, 0,
        30, 26, 3, 37, 21, 23, 37, 4, 1, 36,
        102
    };

    private static final int[] VOTING_WITH_A_LEADER = {
        4, 5, 4, 3, 15, 4, 1,
        20, 22, 4, 102, 101,
        100,
        101,
        102,
        30, 27, 25, 31, 34, 26, 32, 20, 35, 35, 20, 24, 37, 4, 1, 0,
        104,
        103,
        100,
        30, 41, 34, 21, 41, 34, 1, 101,
        30, 41, 34, 20, 33, 1, 102,
        103,
        104,
        25, 102, 20, 33, 1,
        100,
        101,
        102,
        103,
        27, 27, 25, 31, 34, 103, 26, 32, 20, 40, 1, 40, 1,
        30, 104, 103, 0,
        30, 100, 100, 41, 34,
        101,
        102,
        0,
        0
    };

    private final Program program;
    private final int[] inputs;
    private final Run run;
    private final Search search;

    public RoundLab() {
        program = new Program();
        inputs = new int[MOST_PROCESSES];
        run = new Run(program);
        search = new Search(program);
    }

    public int word(int w) throws IllegalStateException {
        if (program.size == MOST_WORDS) {
            throw new IllegalStateException("there are 400 words");
        }
        program.append(w);
        run.end();
        return program.size;
    }

    public int builtin(int k) throws NoSuchElementException {
        if (k < 0 || k > 2) {
            throw new NoSuchElementException("no such program");
        }
        program.replaceBy(k == 0 ? ONE_THIRD_RULE : k == 1 ? VOTING : VOTING_WITH_A_LEADER);
        run.end();
        return program.size;
    }

    public int clear() {
        int before = program.size;
        program.removeAll();
        run.end();
        return before;
    }

    public int check() {
        run.end();
        return program.findError() + 1;
    }

    public int deep(int phase, int part) throws NoSuchElementException, IllegalStateException {
        requireProgram();
        if (phase < 0 || phase >= program.phases || part < NONE || part >= program.variables) {
            throw new NoSuchElementException("no such expression");
        }
        return program.depths[program.expressionFor(phase, part)];
    }

    public int input(int p, int v) throws NoSuchElementException, IllegalArgumentException {
        if (p < 0 || p >= MOST_PROCESSES) {
            throw new NoSuchElementException("no such process");
        }
        requireBetween(v, 0, GREATEST_NUMBER);
        int before = inputs[p];
        inputs[p] = v;
        return before;
    }

    public void start(int n) throws IllegalArgumentException, IllegalStateException {
        requireBetween(n, 1, MOST_PROCESSES);
        requireProgram();
        run.begin(n, inputs);
    }

    public int hear(int p, int set) throws NoSuchElementException, IllegalArgumentException {
        requireProcess(p);
        if ((set & ~run.all()) != 0) {
            throw new IllegalArgumentException("not a set of its processes");
        }
        int before = run.sets[p];
        run.sets[p] = set;
        return before;
    }

    public int round() throws IllegalStateException {
        if (run.processes() == 0 || run.rounds == MOST_ROUNDS) {
            throw new IllegalStateException("no run, or 60 rounds were done");
        }
        run.goOn();
        return run.rounds;
    }

    public int state(int p, int variable) throws NoSuchElementException {
        requireProcess(p);
        if (variable < 0 || variable >= program.variables) {
            throw new NoSuchElementException("no such variable");
        }
        return run.group.valueOf(p, variable);
    }

    public int decided(int p) throws NoSuchElementException {
        requireProcess(p);
        int decision = run.group.valueOf(p, DECISION);
        return decision == 0 ? NONE : decision - 1;
    }

    public int message(int p) throws NoSuchElementException {
        requireProcess(p);
        return run.rounds == 0 ? NONE : run.group.ears.messages[p];
    }

    public int explore(int n, int rounds, int d, int kind)
            throws IllegalArgumentException, IllegalStateException {
        requireBetween(n, 1, MOST_SEARCHED_PROCESSES);
        requireBetween(rounds, 0, MOST_SEARCHED_ROUNDS);
        requireBetween(d, 1, MOST_SEARCHED_INPUTS);
        requireBetween(kind, 0, LAST_KIND);
        requireProgram();
        search.prepare(n, kind);
        return search.searchRuns(rounds, d);
    }

    public int trace(int i) throws NoSuchElementException {
        if (i < 0 || i >= search.pathLength) {
            throw new NoSuchElementException("no such number of a run to a violation");
        }
        return search.path[i];
    }

    public int at(int i) throws NoSuchElementException {
        if (i < 0 || i >= program.size) {
            throw new NoSuchElementException("no such word");
        }
        return program.words[i];
    }

    public int count(int what) throws IllegalArgumentException {
        switch (what) {
            case 0:
                return program.size;
            case 1:
                return program.checked ? 1 : 0;
            case 2:
                return run.processes();
            case 3:
                return run.rounds;
            case 4:
                return search.found;
            case 5:
                return search.pathRounds;
            default:
                throw new IllegalArgumentException("nothing that is counted");
        }
    }

    private void requireProgram() {
        if (!program.checked) {
            throw new IllegalStateException("no checked program");
        }
    }

    private void requireProcess(int p) {
        if (p < 0 || p >= run.processes()) {
            throw new NoSuchElementException("no run, or no such process");
        }
    }

    private static void requireBetween(int number, int least, int greatest) {
        if (number < least || number > greatest) {
            throw new IllegalArgumentException("a number that is too small or too large");
        }
    }

    /** What the words of expressions mean, as far as no process is needed for it. */
    private static final class Word {
        static final int ADD = 20;
        static final int SUBTRACT = 21;
        static final int MULTIPLY = 22;
        static final int DIVIDE = 23;
        static final int REST = 24;
        static final int SAME = 25;
        static final int LESS = 26;
        static final int AND = 27;
        static final int OR = 28;
        static final int NOT = 29;
        static final int IF = 30;
        static final int ME = 31;
        static final int ALL = 32;
        static final int CYCLE = 33;
        static final int LEADER = 34;
        static final int HEARD = 35;
        static final int LEAST = 36;
        static final int GREATEST = 37;
        static final int MOST = 38;
        static final int TIMES = 39;
        static final int COUNT = 40;
        static final int FROM = 41;
        static final int VARIABLE = 100;

        static boolean canStand(int word, int variables, boolean hears) {
            return word >= 0 && word <= GREATEST_NUMBER
                    || word >= VARIABLE && word < VARIABLE + variables
                    || word >= ADD && word <= LEADER
                    || hears && word >= HEARD && word <= FROM;
        }

        static int parts(int word) {
            if (word >= ADD && word <= OR) {
                return 2;
            }
            if (word == IF) {
                return 3;
            }
            return word == NOT || word == COUNT || word == FROM ? 1 : 0;
        }

        static int ofTwo(int word, int a, int b) {
            switch (word) {
                case ADD:
                    return Math.min(a + b, GREATEST_RESULT);
                case SUBTRACT:
                    return Math.max(a - b, 0);
                case MULTIPLY:
                    return Math.min(a * b, GREATEST_RESULT);
                case DIVIDE:
                    return b == 0 ? 0 : a / b;
                case REST:
                    return b == 0 ? 0 : a % b;
                case SAME:
                    return a == b ? 1 : 0;
                case LESS:
                    return a < b ? 1 : 0;
                case AND:
                    return a != 0 && b != 0 ? 1 : 0;
                default:
                    return a != 0 || b != 0 ? 1 : 0;
            }
        }
    }

    /** The words, and, once they are checked, where their expressions stand. */
    private static final class Program {
        static final int FIRST_RANGE = 2;

        final int[] words = new int[MOST_WORDS];
        final int[] begins = new int[MOST_PHASES * (MOST_VARIABLES + 1) + 1];
        final int[] depths = new int[MOST_PHASES * (MOST_VARIABLES + 1)];
        int size = 0;
        boolean checked = false;
        int phases = 1;
        int variables = 2;
        private int error = NONE;
        private int deepest = 0;

        void append(int word) {
            words[size] = word;
            size++;
            checked = false;
        }

        void replaceBy(int[] others) {
            size = others.length;
            System.arraycopy(others, 0, words, 0, size);
            checked = false;
        }

        void removeAll() {
            size = 0;
            checked = false;
        }

        int range(int variable) {
            return words[FIRST_RANGE + variable];
        }

        /** The number of an expression among all; part NONE is the message. */
        int expressionFor(int phase, int part) {
            return phase * (variables + 1) + 1 + part;
        }

        /** The place of the first error, or NONE. */
        int findError() {
            error = NONE;
            int place = readHead();
            int expressions = phases * (variables + 1);
            for (int e = 0; e < expressions && error == NONE; e++) {
                begins[e] = place;
                deepest = 0;
                place = readExpression(place, 1, e % (variables + 1) != 0);
                depths[e] = deepest;
            }
            begins[expressions] = place;
            if (error == NONE && place < size) {
                error = place;
            }
            checked = error == NONE;
            return error;
        }

        /** Reads what stands ahead of the expressions: the place behind it. */
        private int readHead() {
            phases = readNumber(0, 1, MOST_PHASES);
            variables = readNumber(1, 2, MOST_VARIABLES);
            for (int v = 0; v < variables; v++) {
                readNumber(FIRST_RANGE + v, 0, GREATEST_NUMBER);
            }
            return FIRST_RANGE + variables;
        }

        private int readNumber(int place, int least, int greatest) {
            if (error != NONE) {
                return least;
            }
            if (place >= size || words[place] < least || words[place] > greatest) {
                error = place;
                return least;
            }
            return words[place];
        }

        /** Reads an expression: the place behind it, or anything if there is an error in it. */
        private int readExpression(int place, int depth, boolean hears) {
            if (place >= size || depth > MOST_DEPTH
                    || !Word.canStand(words[place], variables, hears)) {
                error = place;
                return place;
            }
            deepest = Math.max(deepest, depth);
            int parts = Word.parts(words[place]);
            int behind = place + 1;
            for (int k = 0; k < parts && error == NONE; k++) {
                behind = readExpression(behind, depth + 1, hears);
            }
            return behind;
        }
    }

    /** The messages of a round, and what one process learns of those that it hears. */
    private static final class Ears {
        final int[] messages = new int[MOST_PROCESSES];
        int heard;
        int least;
        int greatest;
        int most;
        int times;
        private int set;

        void listen(int toWhom) {
            set = toWhom;
            heard = 0;
            least = 0;
            greatest = 0;
            most = 0;
            times = 0;
            for (int p = 0; p < MOST_PROCESSES; p++) {
                if ((set >> p & 1) == 0) {
                    continue;
                }
                int value = messages[p];
                least = heard == 0 ? value : Math.min(least, value);
                greatest = Math.max(greatest, value);
                heard++;
                int same = howOften(value);
                if (same > times || same == times && value < most) {
                    most = value;
                    times = same;
                }
            }
        }

        int howOften(int value) {
            int same = 0;
            for (int p = 0; p < MOST_PROCESSES; p++) {
                if ((set >> p & 1) != 0 && messages[p] == value) {
                    same++;
                }
            }
            return same;
        }

        int from(int process) {
            boolean isHeard = process < MOST_PROCESSES && (set >> process & 1) != 0;
            return isHeard ? messages[process] : 0;
        }
    }

    /** Processes with what they have, and one of them whose expressions are worked out. */
    private static final class Group {
        final Ears ears = new Ears();
        final int[] values = new int[MOST_PROCESSES * MOST_VARIABLES];
        int processes = 0;
        private final Program program;
        private final int[] stack = new int[MOST_WORDS];
        private int phase;
        private int cycle;
        private int me;

        Group(Program itsProgram) {
            program = itsProgram;
        }

        int valueOf(int process, int variable) {
            return values[process * MOST_VARIABLES + variable];
        }

        void setValue(int process, int variable, int value) {
            values[process * MOST_VARIABLES + variable] = value;
        }

        /** All processes make their messages of the round. */
        void speak(int round) {
            phase = round % program.phases;
            cycle = round / program.phases;
            for (int p = 0; p < processes; p++) {
                me = p;
                ears.messages[p] = workOut(NONE);
            }
        }

        /** From now on it is this process, hearing this set, whose next values are worked out. */
        void turnTo(int process, int set) {
            me = process;
            ears.listen(set);
        }

        /** A variable's next value, or, for part NONE, the message. */
        int workOut(int part) {
            int greatest = part == NONE ? GREATEST_RESULT : program.range(part);
            int expression = program.expressionFor(phase, part);
            int first = program.begins[expression];
            int top = 0;
            // From the last word to the first, so that each word finds its parts on the stack.
            for (int place = program.begins[expression + 1] - 1; place >= first; place--) {
                int word = program.words[place];
                switch (Word.parts(word)) {
                    case 0:
                        stack[top] = ofNone(word);
                        top++;
                        break;
                    case 1:
                        stack[top - 1] = ofOne(word, stack[top - 1]);
                        break;
                    case 2:
                        top--;
                        stack[top - 1] = Word.ofTwo(word, stack[top], stack[top - 1]);
                        break;
                    default:
                        top -= 2;
                        stack[top - 1] = stack[top + 1] != 0 ? stack[top] : stack[top - 1];
                        break;
                }
            }
            return Math.min(stack[0], greatest);
        }

        private int ofNone(int word) {
            switch (word) {
                case Word.ME:
                    return me;
                case Word.ALL:
                    return processes;
                case Word.CYCLE:
                    return Math.min(cycle, GREATEST_NUMBER);
                case Word.LEADER:
                    return cycle % processes;
                case Word.HEARD:
                    return ears.heard;
                case Word.LEAST:
                    return ears.least;
                case Word.GREATEST:
                    return ears.greatest;
                case Word.MOST:
                    return ears.most;
                case Word.TIMES:
                    return ears.times;
                default:
                    return word >= Word.VARIABLE ? valueOf(me, word - Word.VARIABLE) : word;
            }
        }

        private int ofOne(int word, int a) {
            switch (word) {
                case Word.COUNT:
                    return ears.howOften(a);
                case Word.FROM:
                    return ears.from(a);
                default:
                    return a == 0 ? 1 : 0;
            }
        }
    }

    /** The run that is made by hand; without processes there is none. */
    private static final class Run {
        final Group group;
        final int[] sets = new int[MOST_PROCESSES];
        int rounds = 0;
        private final Program program;
        private final int[] nextValues = new int[MOST_PROCESSES * MOST_VARIABLES];

        Run(Program itsProgram) {
            program = itsProgram;
            group = new Group(itsProgram);
        }

        int processes() {
            return group.processes;
        }

        int all() {
            return (1 << group.processes) - 1;
        }

        void end() {
            group.processes = 0;
            rounds = 0;
        }

        void begin(int n, int[] inputs) {
            group.processes = n;
            rounds = 0;
            Arrays.fill(group.values, 0);
            for (int p = 0; p < n; p++) {
                group.setValue(p, GIVEN, Math.min(inputs[p], program.range(GIVEN)));
            }
            Arrays.fill(sets, all());
        }

        void goOn() {
            group.speak(rounds);
            for (int p = 0; p < group.processes; p++) {
                group.turnTo(p, sets[p]);
                for (int v = 0; v < program.variables; v++) {
                    nextValues[p * MOST_VARIABLES + v] = group.workOut(v);
                }
            }
            System.arraycopy(nextValues, 0, group.values, 0, nextValues.length);
            Arrays.fill(sets, all());
            rounds++;
        }
    }

    /**
     * The search through all runs. A state is one long: four bits for each variable of each
     * process, and above these the set of the inputs. Inputs and hearings are codes, ints that have
     * one digit of some bits for each process, process 0's being the highest: so ascending codes
     * are the order that is asked for.
     */
    private static final class Search {
        static final int VALUE_BITS = 4;
        static final int PROCESS_BITS = VALUE_BITS * MOST_VARIABLES;
        static final int INPUTS_SHIFT = PROCESS_BITS * MOST_SEARCHED_PROCESSES;
        static final int INPUT_BITS = 2;
        static final int MOST_SETS = 1 << MOST_SEARCHED_PROCESSES;
        static final int MOST_HEARINGS = 1 << MOST_SEARCHED_PROCESSES * MOST_SEARCHED_PROCESSES;
        static final int TABLE_BITS = 9;
        static final int TABLE_SIZE = 1 << TABLE_BITS;
        static final int SCATTER = 0x9E3779B1;

        int found = 0;
        int pathRounds = NONE;
        int pathLength = 0;
        final int[] path = new int[MOST_SEARCHED_PROCESSES * (MOST_SEARCHED_ROUNDS + 1)];

        private final Program program;
        private final Group group;
        private final long[] states = new long[MOST_STATES];
        private final int[] parents = new int[MOST_STATES];
        private final int[] codes = new int[MOST_STATES];
        private final int[] table = new int[TABLE_SIZE];
        private final int[] hearings = new int[MOST_HEARINGS];
        private final long[] nexts = new long[MOST_SEARCHED_PROCESSES * MOST_SETS];
        private int hearingCount = 0;
        private int n = 1;
        private boolean ended = false;
        private int outcome = 0;

        Search(Program itsProgram) {
            program = itsProgram;
            group = new Group(itsProgram);
        }

        void prepare(int processes, int kind) {
            n = processes;
            group.processes = processes;
            found = 0;
            pathRounds = NONE;
            pathLength = 0;
            ended = false;
            outcome = 0;
            hearingCount = 0;
            int codeCount = 1 << n * n;
            for (int code = 0; code < codeCount; code++) {
                if (isOfKind(code, kind)) {
                    hearings[hearingCount] = code;
                    hearingCount++;
                }
            }
        }

        /** The answer that is due for the search. */
        int searchRuns(int rounds, int d) {
            Arrays.fill(table, 0);
            findFirstStates(d);
            int first = 0;
            for (int r = 0; r < rounds && !ended; r++) {
                int behind = found;
                // States count as found only within their own number of rounds.
                Arrays.fill(table, 0);
                for (int i = first; i < behind && !ended; i++) {
                    goOnFrom(i, r);
                }
                first = behind;
            }
            return outcome;
        }

        private boolean isOfKind(int code, int kind) {
            int common = MOST_SETS - 1;
            int fewest = n;
            for (int p = 0; p < n; p++) {
                int set = digit(code, p, n);
                common &= set;
                fewest = Math.min(fewest, Integer.bitCount(set));
            }
            switch (kind) {
                case 1:
                    return 2 * fewest > n;
                case 2:
                    return common != 0;
                case 3:
                    return 3 * fewest > 2 * n;
                default:
                    return true;
            }
        }

        private int digit(int code, int process, int bits) {
            return code >> bits * (n - 1 - process) & (1 << bits) - 1;
        }

        private void findFirstStates(int d) {
            int codeCount = 1 << INPUT_BITS * n;
            for (int code = 0; code < codeCount; code++) {
                int greatest = 0;
                for (int p = 0; p < n; p++) {
                    greatest = Math.max(greatest, digit(code, p, INPUT_BITS));
                }
                if (greatest < d) {
                    find(firstState(code), NONE, code);
                }
            }
        }

        private long firstState(int code) {
            long state = 0;
            for (int p = 0; p < n; p++) {
                int input = digit(code, p, INPUT_BITS);
                state |= 1L << INPUTS_SHIFT + input;
                state |= packed(Math.min(input, program.range(GIVEN)), p, GIVEN);
            }
            return state;
        }

        private static long packed(int value, int process, int variable) {
            return (long) value << PROCESS_BITS * process + VALUE_BITS * variable;
        }

        private static int unpacked(long state, int process, int variable) {
            return (int) (state >>> PROCESS_BITS * process + VALUE_BITS * variable)
                    & (1 << VALUE_BITS) - 1;
        }

        /** What a process comes to depends on its own set alone: so it is worked out once a set. */
        private void goOnFrom(int index, int round) {
            long before = states[index];
            for (int p = 0; p < n; p++) {
                for (int v = 0; v < program.variables; v++) {
                    group.setValue(p, v, unpacked(before, p, v));
                }
            }
            group.speak(round);
            int setCount = 1 << n;
            for (int p = 0; p < n; p++) {
                for (int set = 0; set < setCount; set++) {
                    nexts[p * MOST_SETS + set] = nextOf(p, set);
                }
            }
            long given = before >>> INPUTS_SHIFT << INPUTS_SHIFT;
            for (int h = 0; h < hearingCount && !ended; h++) {
                comeTo(given | together(hearings[h]), index, hearings[h], round + 1);
            }
        }

        private long nextOf(int process, int set) {
            group.turnTo(process, set);
            long next = 0;
            for (int v = 0; v < program.variables; v++) {
                next |= packed(group.workOut(v), process, v);
            }
            return next;
        }

        private long together(int hearing) {
            long state = 0;
            for (int p = 0; p < n; p++) {
                state |= nexts[p * MOST_SETS + digit(hearing, p, n)];
            }
            return state;
        }

        private void comeTo(long state, int parent, int hearing, int rounds) {
            int violation = violationOf(states[parent], state);
            if (violation == 0) {
                find(state, parent, hearing);
                return;
            }
            ended = true;
            outcome = violation;
            writePath(parent, hearing, rounds);
        }

        /** The least violation when one state is come to from another one, or 0. */
        private int violationOf(long before, long after) {
            boolean differ = false;
            boolean isNoInput = false;
            boolean changes = false;
            int one = 0;
            for (int p = 0; p < n; p++) {
                int decision = unpacked(after, p, DECISION);
                int earlier = unpacked(before, p, DECISION);
                changes |= earlier != 0 && earlier != decision;
                if (decision != 0) {
                    differ |= one != 0 && one != decision;
                    one = decision;
                    isNoInput |= decision > MOST_SEARCHED_INPUTS
                            || (after >>> INPUTS_SHIFT + decision - 1 & 1) == 0;
                }
            }
            return differ ? 1 : isNoInput ? 2 : changes ? 3 : 0;
        }

        private void find(long state, int parent, int code) {
            int place = placeOf(state);
            if (table[place] != 0) {
                return;
            }
            if (found == MOST_STATES) {
                ended = true;
                outcome = NONE;
                return;
            }
            states[found] = state;
            parents[found] = parent;
            codes[found] = code;
            found++;
            table[place] = found;
        }

        /** Where in the table a state's number stands (one more than its index), or would stand. */
        private int placeOf(long state) {
            int place = ((int) (state ^ state >>> 31) * SCATTER) >>> 32 - TABLE_BITS;
            for (int k = 0; k < TABLE_SIZE && table[place] != 0; k++) {
                if (states[table[place] - 1] == state) {
                    return place;
                }
                place = place + 1 & TABLE_SIZE - 1;
            }
            return place;
        }

        private void writePath(int parent, int hearing, int rounds) {
            pathRounds = rounds;
            pathLength = n * (rounds + 1);
            int from = parent;
            int code = hearing;
            for (int r = rounds; r > 0; r--) {
                writeDigits(code, n * r, n);
                code = codes[from];
                from = parents[from];
            }
            writeDigits(code, 0, INPUT_BITS);
        }

        private void writeDigits(int code, int place, int bits) {
            for (int p = 0; p < n; p++) {
                path[place + p] = digit(code, p, bits);
            }
        }
    }
}
