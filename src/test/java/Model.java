import java.util.ArrayList;
import java.util.Collections;
import java.util.HashSet;
import java.util.List;
import java.util.NoSuchElementException;
import java.util.Set;
import java.util.TreeMap;

/** RoundLab once more, by plain lists, trees and sets, to be compared with the program. */
final class Model {
    private static final String BUILTINS = "1 2 4 3 101 30 100 100 30 26 20 32 32 20 39 20 39 39 20"
            + " 38 1 0 30 26 20 32 32 20 35 20 35 35 38 101;"
            + "2 3 4 3 4 101 100 36 30 27 35 25 39 35 20 38 1 0 20 22 4 102 101 30 100 100 30 27 25 23"
            + " 36 4 23 37 4 23 36 4 23 37 4 0 30 26 3 37 21 23 37 4 1 36 102;"
            + "4 5 4 3 15 4 1 20 22 4 102 101 100 101 102 30 27 25 31 34 26 32 20 35 35 20 24 37 4 1 0"
            + " 104 103 100 30 41 34 21 41 34 1 101 30 41 34 20 33 1 102 103 104 25 102 20 33 1 100 101"
            + " 102 103 27 27 25 31 34 103 26 32 20 40 1 40 1 30 104 103 0 30 100 100 41 34 101 102 0 0";

    /** An expression as a tree. */
    private record Tree(int word, List<Tree> parts) {
        int depth() {
            int deepest = 0;
            for (Tree part : parts) {
                deepest = Math.max(deepest, part.depth());
            }
            return deepest + 1;
        }
    }

    /** What an expression is worked out from; heard maps processes to messages. */
    private record View(List<Integer> mine, int me, int all, int cycle, TreeMap<Integer, Integer> heard) {
    }

    /** A state of a search with the first run that came to it. */
    private record Found(Set<Integer> inputs, List<List<Integer>> values, List<Integer> run) {
    }

    private final List<Integer> words = new ArrayList<>();
    private final int[] inputs = new int[7];
    private List<List<Tree>> trees = null;
    private List<Integer> ranges = null;
    private List<List<Integer>> run = null;
    private List<Integer> said = null;
    private int[] sets = null;
    private int rounds = 0;
    private int states = 0;
    private int violationRounds = -1;
    private List<Integer> violating = List.of();

    int word(int w) {
        if (words.size() >= 400) {
            throw new IllegalStateException();
        }
        words.add(w);
        forget();
        return words.size();
    }

    int builtin(int k) {
        String[] programs = BUILTINS.split(";");
        if (k < 0 || k >= programs.length) {
            throw new NoSuchElementException();
        }
        clear();
        for (String word : programs[k].split(" ")) {
            words.add(Integer.parseInt(word));
        }
        return words.size();
    }

    int clear() {
        int before = words.size();
        words.clear();
        forget();
        return before;
    }

    private void forget() {
        trees = null;
        run = null;
        rounds = 0;
    }

    int check() {
        forget();
        int error = firstError();
        if (error == 0) {
            ranges = words.subList(2, 2 + words.get(1));
            trees = new ArrayList<>();
            int[] cursor = {2 + ranges.size()};
            for (int phase = 0; phase < words.get(0); phase++) {
                List<Tree> row = new ArrayList<>();
                for (int part = 0; part <= ranges.size(); part++) {
                    row.add(tree(cursor));
                }
                trees.add(row);
            }
        }
        return error;
    }

    private Tree tree(int[] cursor) {
        int word = words.get(cursor[0]++);
        List<Tree> parts = new ArrayList<>();
        for (int k = 0; k < partsOf(word); k++) {
            parts.add(tree(cursor));
        }
        return new Tree(word, parts);
    }

    private static int partsOf(int word) {
        return switch (word) {
            case 20, 21, 22, 23, 24, 25, 26, 27, 28 -> 2;
            case 29, 40, 41 -> 1;
            case 30 -> 3;
            default -> 0;
        };
    }

    /** Goes through the words with a stack of the depths at which expressions must still stand. */
    private int firstError() {
        List<Integer> due = new ArrayList<>();
        boolean[] isNext = new boolean[500];
        int expressions = 0;
        for (int i = 0; i < words.size(); i++) {
            int w = words.get(i);
            if (i == 0) {
                if (w < 1 || w > 4) {
                    return 1;
                }
            } else if (i == 1) {
                if (w < 2 || w > 5) {
                    return 2;
                }
            } else if (i < 2 + words.get(1)) {
                if (w < 0 || w > 15) {
                    return i + 1;
                }
            } else {
                if (due.isEmpty()) {
                    if (expressions == words.get(0) * (words.get(1) + 1)) {
                        return i + 1;
                    }
                    isNext[i] = expressions % (words.get(1) + 1) > 0;
                    expressions++;
                    due.add(1);
                } else {
                    isNext[i] = isNext[i - 1];
                }
                int depth = due.remove(due.size() - 1);
                if (depth == 13 || !known(w, isNext[i])) {
                    return i + 1;
                }
                due.addAll(Collections.nCopies(partsOf(w), depth + 1));
            }
        }
        boolean whole = words.size() > 2 && due.isEmpty()
                && expressions == words.get(0) * (words.get(1) + 1);
        return whole ? 0 : words.size() + 1;
    }

    private boolean known(int w, boolean next) {
        if (w >= 100) {
            return w - 100 < words.get(1);
        }
        return w >= 0 && w < 16 || w >= 20 && w < 35 || next && w >= 35 && w < 42;
    }

    int deep(int phase, int part) {
        requireTrees();
        if (phase < 0 || phase >= trees.size() || part < -1 || part >= ranges.size()) {
            throw new NoSuchElementException();
        }
        return trees.get(phase).get(part + 1).depth();
    }

    private void requireTrees() {
        if (trees == null) {
            throw new IllegalStateException();
        }
    }

    int input(int p, int v) {
        if (p < 0 || p > 6) {
            throw new NoSuchElementException();
        }
        if (v < 0 || v > 15) {
            throw new IllegalArgumentException();
        }
        int before = inputs[p];
        inputs[p] = v;
        return before;
    }

    int start(int n) {
        if (n < 1 || n > 7) {
            throw new IllegalArgumentException();
        }
        requireTrees();
        List<Integer> values = new ArrayList<>();
        for (int p = 0; p < n; p++) {
            values.add(inputs[p]);
        }
        run = beginning(values);
        said = Collections.nCopies(n, -1);
        rounds = 0;
        hearAll();
        return 0;
    }

    private List<List<Integer>> beginning(List<Integer> values) {
        List<List<Integer>> all = new ArrayList<>();
        for (int value : values) {
            List<Integer> one = new ArrayList<>(Collections.nCopies(ranges.size(), 0));
            one.set(1, Math.min(value, ranges.get(1)));
            all.add(one);
        }
        return all;
    }

    private void hearAll() {
        sets = new int[run.size()];
        java.util.Arrays.fill(sets, (1 << run.size()) - 1);
    }

    private void requireProcess(int p) {
        if (run == null || p < 0 || p >= run.size()) {
            throw new NoSuchElementException();
        }
    }

    int hear(int p, int set) {
        requireProcess(p);
        if (set < 0 || set >= 1 << run.size()) {
            throw new IllegalArgumentException();
        }
        int before = sets[p];
        sets[p] = set;
        return before;
    }

    int round() {
        if (run == null || rounds == 60) {
            throw new IllegalStateException();
        }
        said = messages(run, rounds);
        run = after(run, rounds, sets);
        hearAll();
        return ++rounds;
    }

    private List<Integer> messages(List<List<Integer>> values, int r) {
        List<Integer> made = new ArrayList<>();
        for (int p = 0; p < values.size(); p++) {
            View view = new View(values.get(p), p, values.size(), r / trees.size(), new TreeMap<>());
            made.add(value(trees.get(r % trees.size()).get(0), view));
        }
        return made;
    }

    private List<List<Integer>> after(List<List<Integer>> values, int r, int[] hearing) {
        List<Integer> made = messages(values, r);
        List<List<Integer>> next = new ArrayList<>();
        for (int p = 0; p < values.size(); p++) {
            TreeMap<Integer, Integer> heard = new TreeMap<>();
            for (int q = 0; q < values.size(); q++) {
                if ((hearing[p] & 1 << q) != 0) {
                    heard.put(q, made.get(q));
                }
            }
            View view = new View(values.get(p), p, values.size(), r / trees.size(), heard);
            List<Integer> one = new ArrayList<>();
            for (int v = 0; v < ranges.size(); v++) {
                int value = value(trees.get(r % trees.size()).get(v + 1), view);
                one.add(Math.min(value, ranges.get(v)));
            }
            next.add(one);
        }
        return next;
    }

    private static int value(Tree tree, View view) {
        int w = tree.word();
        if (w >= 100) {
            return view.mine().get(w - 100);
        }
        if (w == 30) {
            return value(tree.parts().get(value(tree.parts().get(0), view) != 0 ? 1 : 2), view);
        }
        if (tree.parts().size() == 2) {
            int a = value(tree.parts().get(0), view);
            int b = value(tree.parts().get(1), view);
            return Math.max(0, Math.min(99, binary(w, a, b)));
        }
        if (tree.parts().size() == 1) {
            int a = value(tree.parts().get(0), view);
            return w == 29 ? (a == 0 ? 1 : 0) : w == 40
                    ? Collections.frequency(view.heard().values(), a) : view.heard().getOrDefault(a, 0);
        }
        return leaf(w, view);
    }

    private static int binary(int w, int a, int b) {
        return switch (w) {
            case 20 -> a + b;
            case 21 -> a - b;
            case 22 -> a * b;
            case 23 -> b == 0 ? 0 : a / b;
            case 24 -> b == 0 ? 0 : a - a / b * b;
            case 25 -> a == b ? 1 : 0;
            case 26 -> a < b ? 1 : 0;
            case 27 -> a * b != 0 ? 1 : 0;
            default -> a + b != 0 ? 1 : 0;
        };
    }

    private static int leaf(int w, View view) {
        List<Integer> heard = new ArrayList<>(view.heard().values());
        Collections.sort(heard);
        int most = 0;
        int times = 0;
        for (int value : heard) {
            if (Collections.frequency(heard, value) > times) {
                most = value;
                times = Collections.frequency(heard, value);
            }
        }
        return switch (w) {
            case 31 -> view.me();
            case 32 -> view.all();
            case 33 -> Math.min(15, view.cycle());
            case 34 -> view.cycle() % view.all();
            case 35 -> heard.size();
            case 36 -> heard.isEmpty() ? 0 : heard.get(0);
            case 37 -> heard.isEmpty() ? 0 : heard.get(heard.size() - 1);
            case 38 -> most;
            case 39 -> times;
            default -> w;
        };
    }

    int state(int p, int variable) {
        requireProcess(p);
        if (variable < 0 || variable >= ranges.size()) {
            throw new NoSuchElementException();
        }
        return run.get(p).get(variable);
    }

    int decided(int p) {
        return state(p, 0) - 1;
    }

    int message(int p) {
        requireProcess(p);
        return said.get(p);
    }

    int explore(int n, int howManyRounds, int d, int kind) {
        if (n < 1 || n > 3 || howManyRounds < 0 || howManyRounds > 5 || d < 1 || d > 3
                || kind < 0 || kind > 3) {
            throw new IllegalArgumentException();
        }
        requireTrees();
        states = 0;
        violationRounds = -1;
        violating = List.of();
        List<Found> latest = new ArrayList<>();
        Set<Object> known = new HashSet<>();
        for (List<Integer> values : tuples(n, d)) {
            Found found = new Found(new HashSet<>(values), beginning(values), values);
            if (known.add(List.of(found.inputs(), found.values()))) {
                latest.add(found);
                states++;
            }
        }
        for (int r = 0; r < howManyRounds; r++) {
            List<Found> next = new ArrayList<>();
            int answer = searchRound(latest, next, r, hearings(n, kind));
            if (answer != 0) {
                return answer;
            }
            latest = next;
        }
        return 0;
    }

    private int searchRound(List<Found> latest, List<Found> next, int r, List<int[]> hearings) {
        Set<Object> known = new HashSet<>();
        for (Found from : latest) {
            for (int[] hearing : hearings) {
                List<List<Integer>> values = after(from.values(), r, hearing);
                List<Integer> way = new ArrayList<>(from.run());
                for (int set : hearing) {
                    way.add(set);
                }
                int violation = violation(from, values);
                if (violation != 0) {
                    violating = way;
                    violationRounds = r + 1;
                    return violation;
                }
                if (known.add(List.of(from.inputs(), values))) {
                    if (states == 200) {
                        return -1;
                    }
                    states++;
                    next.add(new Found(from.inputs(), values, way));
                }
            }
        }
        return 0;
    }

    private static int violation(Found from, List<List<Integer>> values) {
        Set<Integer> decisions = new HashSet<>();
        boolean changed = false;
        for (int p = 0; p < values.size(); p++) {
            int before = from.values().get(p).get(0);
            int now = values.get(p).get(0);
            changed |= before > 0 && now != before;
            if (now > 0) {
                decisions.add(now - 1);
            }
        }
        if (decisions.size() > 1) {
            return 1;
        }
        return !from.inputs().containsAll(decisions) ? 2 : changed ? 3 : 0;
    }

    /** All rows of so many numbers below a bound, ascending, the first one counting most. */
    private static List<List<Integer>> tuples(int size, int bound) {
        List<List<Integer>> rows = List.of(List.of());
        for (int k = 0; k < size; k++) {
            List<List<Integer>> longer = new ArrayList<>();
            for (List<Integer> row : rows) {
                for (int number = 0; number < bound; number++) {
                    List<Integer> one = new ArrayList<>(row);
                    one.add(number);
                    longer.add(one);
                }
            }
            rows = longer;
        }
        return rows;
    }

    private static List<int[]> hearings(int n, int kind) {
        List<int[]> all = new ArrayList<>();
        for (List<Integer> row : tuples(n, 1 << n)) {
            boolean fits = kind == 0;
            for (int p = 0; kind == 2 && p < n; p++) {
                int bit = 1 << p;
                fits |= row.stream().allMatch(set -> (set & bit) != 0);
            }
            if (kind == 1 || kind == 3) {
                double share = kind == 1 ? n / 2.0 : n * 2 / 3.0;
                fits = row.stream().allMatch(set -> Integer.bitCount(set) > share + 1e-9);
            }
            if (fits) {
                all.add(row.stream().mapToInt(set -> set).toArray());
            }
        }
        return all;
    }

    int trace(int i) {
        if (i < 0 || i >= violating.size()) {
            throw new NoSuchElementException();
        }
        return violating.get(i);
    }

    int at(int i) {
        if (i < 0 || i >= words.size()) {
            throw new NoSuchElementException();
        }
        return words.get(i);
    }

    int count(int what) {
        return switch (what) {
            case 0 -> words.size();
            case 1 -> trees != null ? 1 : 0;
            case 2 -> run == null ? 0 : run.size();
            case 3 -> rounds;
            case 4 -> states;
            case 5 -> violationRounds;
            default -> throw new IllegalArgumentException();
        };
    }
}
