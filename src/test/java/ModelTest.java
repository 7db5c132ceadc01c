import java.util.ArrayList;
import java.util.List;

/** Made-up programs, runs and searches, and rows of 512 calls in any order, against the model. */
public final class ModelTest {
    private final Dice dice = new Dice(20261115);
    private final int[] outcomes = new int[5];

    /** Numbers that are the same in each run of the tests. */
    private static final class Dice {
        private long seed;

        Dice(long first) {
            seed = first;
        }

        int below(int bound) {
            seed = seed * 6364136223846793005L + 1442695040888963407L;
            return (int) ((seed >>> 33) % bound);
        }

        boolean oneOf(int n) {
            return below(n) == 0;
        }
    }

    public static void main(String[] args) {
        ModelTest test = new ModelTest();
        for (int k = 0; k < 300; k++) {
            test.search(k);
        }
        for (int k = 0; k < 500; k++) {
            test.run(k);
        }
        for (int k = 0; k < 4000; k++) {
            test.errors(k);
        }
        for (int k = 0; k < 300; k++) {
            test.calls(k);
        }
        for (int outcome = -1; outcome <= 3; outcome++) {
            int howMany = test.outcomes[outcome + 1];
            Checks.compare("searches with outcome " + outcome, "enough",
                    howMany >= 10 ? "enough" : String.valueOf(howMany));
        }
        Checks.finish();
    }

    private void same(String what, Checks.Call model, Checks.Call lab) {
        Checks.compare(what, Checks.answer(model), Checks.answer(lab));
    }

    private void expression(List<Integer> words, int variables, boolean hears, int depth) {
        boolean leaf = depth == 1 || dice.oneOf(3);
        if (leaf && hears && dice.oneOf(2)) {
            words.add(35 + dice.below(5));
        } else if (leaf) {
            int kind = dice.below(4);
            words.add(kind == 0 ? 31 + dice.below(4) : kind == 1 ? dice.below(dice.oneOf(3) ? 16 : 3)
                    : 100 + dice.below(variables));
        } else {
            int word = hears && dice.oneOf(4) ? 40 + dice.below(2) : 20 + dice.below(11);
            words.add(word);
            int parts = word == 30 ? 3 : word == 29 || word >= 40 ? 1 : 2;
            for (int k = 0; k < parts; k++) {
                expression(words, variables, hears, depth - 1);
            }
        }
    }

    /** A program without an error, as a rule; one that is too long for the object may be cut. */
    private List<Integer> program(int depth) {
        List<Integer> words = new ArrayList<>();
        int phases = 1 + dice.below(4);
        int variables = 2 + dice.below(4);
        words.add(phases);
        words.add(variables);
        for (int v = 0; v < variables; v++) {
            words.add(dice.oneOf(3) ? dice.below(16) : 1 + dice.below(4));
        }
        for (int phase = 0; phase < phases; phase++) {
            for (int part = -1; part < variables; part++) {
                if (part == 0 && dice.oneOf(2)) {
                    // A decision that mostly stays, so that not every search ends at once.
                    words.addAll(List.of(30, 100, 100));
                }
                if (part == 0 && dice.oneOf(2)) {
                    words.addAll(List.of(30, 25, 35, 32));
                    words.addAll(dice.oneOf(2) ? List.of(20, 36, 1) : List.of(20, 37, 1));
                    words.add(0);
                } else {
                    expression(words, variables, part >= 0, 1 + dice.below(depth));
                }
            }
        }
        return words.subList(0, Math.min(400, words.size()));
    }

    private void give(List<Integer> words, Model model, Lab lab) {
        for (int word : words) {
            model.word(word);
            lab.word(word);
        }
    }

    private void search(int number) {
        Model model = new Model();
        Lab lab = new Lab();
        List<Integer> words = program(4);
        if (number % 10 < 3) {
            model.builtin(number % 10);
            lab.builtin(number % 10);
        } else {
            give(words, model, lab);
        }
        same("check of " + words, model::check, lab::check);
        for (int k = 0; k < 4; k++) {
            int n = 1 + dice.below(3);
            int rounds = dice.below(6);
            int d = 1 + dice.below(3);
            int kind = dice.below(4);
            String what = "search of " + words + " by " + n + ", " + rounds + ", " + d + ", " + kind;
            String due = Checks.answer(() -> model.explore(n, rounds, d, kind));
            Checks.compare(what, due, Checks.answer(() -> lab.explore(n, rounds, d, kind)));
            if (model.count(1) == 1) {
                outcomes[Integer.parseInt(due) + 1]++;
            }
            same(what + ": states", () -> model.count(4), () -> lab.count(4));
            same(what + ": rounds", () -> model.count(5), () -> lab.count(5));
            for (int i = -1; i < 20; i++) {
                int place = i;
                same(what + ": trace", () -> model.trace(place), () -> lab.trace(place));
            }
        }
    }

    private void run(int number) {
        Model model = new Model();
        Lab lab = new Lab();
        List<Integer> words = program(number % 3 == 0 ? 9 : 5);
        give(words, model, lab);
        same("check of " + words, model::check, lab::check);
        int n = 1 + dice.below(7);
        for (int p = 0; p < n; p++) {
            int value = dice.below(16);
            model.input(p, value);
            lab.input(p, value);
        }
        if (model.count(1) == 0) {
            return;
        }
        model.start(n);
        lab.start(n);
        // A round is looked at by one call for each set, each message, decision and variable.
        int callsOfRound = 1 + n * (1 + 2 + 5);
        for (int r = 0; lab.callsLeft() >= callsOfRound; r++) {
            for (int p = 0; p < n; p++) {
                int process = p;
                int set = dice.below(1 << n);
                same("hear", () -> model.hear(process, set), () -> lab.hear(process, set));
            }
            same("round", model::round, lab::round);
            for (int p = 0; p < n; p++) {
                int process = p;
                String what = "round " + r + " of " + words + ", process " + p;
                same(what + ": message", () -> model.message(process), () -> lab.message(process));
                same(what + ": decided", () -> model.decided(process), () -> lab.decided(process));
                for (int v = 0; v < 5; v++) {
                    int variable = v;
                    same(what + ": variable " + v, () -> model.state(process, variable),
                            () -> lab.state(process, variable));
                }
            }
        }
    }

    /** A program with some words changed, left out or put in: where its first error is. */
    private void errors(int number) {
        Model model = new Model();
        Lab lab = new Lab();
        List<Integer> words = new ArrayList<>(program(number % 4 == 0 ? 14 : 4));
        int changes = dice.below(3);
        for (int k = 0; k < changes; k++) {
            int place = dice.below(words.size());
            int word = dice.oneOf(3) ? 95 + dice.below(15) : dice.below(50) - 5;
            switch (dice.below(3)) {
                case 0 -> words.set(place, word);
                case 1 -> words.remove(place);
                default -> words.add(place, word);
            }
        }
        give(words.subList(0, Math.min(400, words.size())), model, lab);
        same("check of " + words, model::check, lab::check);
        for (int phase = 0; phase < 5; phase++) {
            for (int part = -2; part < 6; part++) {
                int h = phase;
                int t = part;
                same("deep of " + words, () -> model.deep(h, t), () -> lab.deep(h, t));
            }
        }
    }

    /** One of all ints, near an end of them or at it more often than not. */
    private int anyNumber() {
        int few = dice.below(4);
        int[] numbers = {Integer.MIN_VALUE + few, Integer.MAX_VALUE - few, 1 << 3 * (few + 5),
            dice.below(1 << 16) << 16 | dice.below(1 << 16)};
        return numbers[dice.below(4)];
    }

    /** 512 calls of all methods in any order, with numbers of which some are wrong. */
    private void calls(int number) {
        Model model = new Model();
        Lab lab = new Lab();
        List<Integer> words = program(3);
        int given = 0;
        for (int c = 0; lab.callsLeft() > 0; c++) {
            int a = dice.oneOf(15) ? anyNumber() : dice.below(10) - 1;
            int b = dice.oneOf(15) ? anyNumber() : dice.oneOf(4) ? dice.below(128) : dice.below(6) - 1;
            String what = "call " + c + " of row " + number + " with " + a + ", " + b;
            switch (dice.below(24)) {
                case 0 -> {
                    if (dice.oneOf(3)) {
                        same(what + ": word", () -> model.word(b), () -> lab.word(b));
                    }
                }
                case 1 -> same(what + ": builtin", () -> model.builtin(a), () -> lab.builtin(a));
                case 2 -> {
                    if (dice.oneOf(4)) {
                        same(what + ": clear", model::clear, lab::clear);
                        given = 0;
                    }
                }
                case 3, 4, 5 -> {
                    boolean fits = lab.callsLeft() > words.size();
                    if (model.count(0) == 0 && given == 0 && fits) {
                        give(words, model, lab);
                        given = words.size();
                        words = program(3);
                    }
                    same(what + ": check", model::check, lab::check);
                }
                case 6 -> same(what + ": deep", () -> model.deep(a, b), () -> lab.deep(a, b));
                case 7, 8 -> same(what + ": input", () -> model.input(a, b), () -> lab.input(a, b));
                case 9, 10 -> same(what + ": start", () -> model.start(a), () -> lab.start(a));
                case 11, 12 -> same(what + ": hear", () -> model.hear(a, b), () -> lab.hear(a, b));
                case 13, 14, 15 -> same(what + ": round", model::round, lab::round);
                case 16, 17 -> same(what + ": state", () -> model.state(a, b), () -> lab.state(a, b));
                case 18 -> same(what + ": decided", () -> model.decided(a), () -> lab.decided(a));
                case 19 -> same(what + ": message", () -> model.message(a), () -> lab.message(a));
                case 20 -> {
                    int n = dice.below(4);
                    int d = dice.below(4);
                    int kind = dice.below(5);
                    same(what + ": explore", () -> model.explore(n, b, d, kind),
                            () -> lab.explore(n, b, d, kind));
                }
                case 21 -> same(what + ": trace", () -> model.trace(a), () -> lab.trace(a));
                case 22 -> same(what + ": at", () -> model.at(b), () -> lab.at(b));
                default -> same(what + ": count", () -> model.count(a), () -> lab.count(a));
            }
        }
    }
}
