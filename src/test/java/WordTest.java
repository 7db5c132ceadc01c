import java.util.Arrays;

/** What each word of an expression means, seen in messages (up to 99) and in next values. */
public final class WordTest extends Programs {
    private static final int ADD = 20;
    private static final int SUBTRACT = 21;
    private static final int MULTIPLY = 22;
    private static final int DIVIDE = 23;
    private static final int REST = 24;

    public static void main(String[] args) {
        numbersAndVariables();
        arithmetic();
        comparisons();
        choices();
        whoAndHowMany();
        cyclesAndLeaders();
        heardSummaries();
        heardCounts();
        heardFrom();
        nothingHeard();
        Checks.finish();
    }

    private static void numbersAndVariables() {
        for (int number = 0; number <= 15; number++) {
            worth(number, number);
        }
        worth(0, 100);
        worth(13, 101);
        Lab lab = checked(1, 5, 15, 15, 15, 15, 15, 104, 1, 102, 103, 104, 9);
        lab.input(0, 6);
        lab.start(1);
        lab.rounds(3);
        Checks.due("three variables on", 9, () -> lab.state(0, 2));
        Checks.due("a message of variable 4", 9, () -> lab.message(0));
        Checks.due("variable 1", 0, () -> lab.state(0, 1));
        lab.rounds(1);
        Checks.due("variable 1, one on", 9, () -> lab.state(0, 1));
    }

    private static void arithmetic() {
        worth(7, ADD, 3, 4);
        worth(30, ADD, 15, 15);
        worth(99, ADD, MULTIPLY, 6, 15, 9);
        worth(99, ADD, MULTIPLY, 6, 15, 10);
        worth(99, MULTIPLY, 15, 15);
        worth(99, MULTIPLY, 9, 11);
        worth(98, MULTIPLY, 7, 14);
        worth(0, MULTIPLY, 0, 15);
        worth(99, MULTIPLY, MULTIPLY, 15, 15, MULTIPLY, 15, 15);
        worth(0, MULTIPLY, SUBTRACT, 2, 3, 3);
        worth(84, SUBTRACT, MULTIPLY, 15, 15, 15);
        worth(4, SUBTRACT, 9, 5);
        worth(0, SUBTRACT, 5, 5);
        worth(0, SUBTRACT, 5, 9);
        worth(3, DIVIDE, 15, 4);
        worth(0, DIVIDE, 3, 4);
        worth(15, DIVIDE, 15, 1);
        worth(0, DIVIDE, 15, 0);
        worth(3, REST, 15, 4);
        worth(3, REST, 3, 4);
        worth(0, REST, 15, 5);
        worth(0, REST, 15, 0);
    }

    private static void comparisons() {
        int[][] due = {
            // a, b, SAME, LESS, AND, OR
            {0, 0, 1, 0, 0, 0}, {0, 2, 0, 1, 0, 1}, {2, 0, 0, 0, 0, 1}, {2, 2, 1, 0, 1, 1},
            {2, 3, 0, 1, 1, 1}, {4, 2, 0, 0, 1, 1}, {1, 2, 0, 1, 1, 1},
        };
        for (int[] row : due) {
            for (int k = 0; k < 4; k++) {
                worth(row[2 + k], 25 + k, row[0], row[1]);
            }
        }
        worth(1, 29, 0);
        worth(0, 29, 1);
        worth(0, 29, 9);
    }

    private static void choices() {
        worth(5, 30, 1, 5, 7);
        worth(5, 30, 9, 5, 7);
        worth(7, 30, 0, 5, 7);
        worth(8, 30, 30, 0, 1, 0, 7, 30, 2, 8, 9);
        worth(14, ADD, 30, 101, 1, 2, 101);
        worth(0, 30, 0, DIVIDE, 1, 0, REST, 1, 0);
    }

    private static void whoAndHowMany() {
        for (int n = 1; n <= 7; n++) {
            Lab lab = checked(1, 2, 15, 15, 20, 22, 31, 10, 32, 31, 32);
            lab.start(n);
            lab.round();
            for (int p = 0; p < n; p++) {
                int process = p;
                Checks.due("ME * 10 + ALL", p * 10 + n, () -> lab.message(process));
                Checks.due("ME", p, () -> lab.state(process, 0));
                Checks.due("ALL", n, () -> lab.state(process, 1));
            }
        }
    }

    private static void cyclesAndLeaders() {
        for (int phases = 1; phases <= 4; phases++) {
            Lab lab = new Lab();
            for (int word : new int[] {phases, 2, 15, 15}) {
                lab.word(word);
            }
            for (int phase = 0; phase < phases; phase++) {
                for (int word : new int[] {20, 22, 10, phase, 34, 33, 34}) {
                    lab.word(word);
                }
            }
            lab.check();
            lab.start(7);
            for (int r = 0; r < 60; r++) {
                lab.round();
                int cycle = r / phases;
                int phase = r % phases;
                Checks.due("phase and LEADER, round " + r, phase * 10 + cycle % 7, () -> lab.message(3));
                Checks.due("CYCLE, round " + r, Math.min(cycle, 15), () -> lab.state(3, 0));
                Checks.due("LEADER, round " + r, cycle % 7, () -> lab.state(3, 1));
            }
        }
    }

    private static void heardSummaries() {
        int[] values = {5, 9, 9, 2, 5, 2, 7};
        int[][] due = {
            // set, HEARD, LEAST, GREATEST, MOST, TIMES
            {127, 7, 2, 9, 2, 2}, {1, 1, 5, 5, 5, 1}, {6, 2, 9, 9, 9, 2}, {0b1000111, 4, 5, 9, 9, 2},
            {0b0010111, 4, 5, 9, 5, 2}, {0b1000011, 3, 5, 9, 5, 1}, {0b1000010, 2, 7, 9, 7, 1},
            {0b0010110, 3, 5, 9, 9, 2}, {0b1111110, 6, 2, 9, 2, 2},
        };
        for (int[] row : due) {
            for (int k = 0; k < 5; k++) {
                hears(row[1 + k], values, row[0], 35 + k);
            }
        }
        int[] withZeros = {0, 3, 0, 3, 3};
        hears(0, withZeros, 0b00111, 38);
        hears(2, withZeros, 0b00111, 39);
        hears(0, withZeros, 0b01111, 38);
        hears(3, withZeros, 31, 38);
        hears(0, withZeros, 31, 36);
        hears(3, withZeros, 0b11010, 36);
    }

    private static void heardCounts() {
        int[] values = {5, 0, 5, 2};
        hears(2, values, 15, 40, 5);
        hears(1, values, 0b1110, 40, 5);
        hears(1, values, 15, 40, 0);
        hears(0, values, 0b1101, 40, 0);
        hears(0, values, 15, 40, 7);
        hears(2, values, 15, 40, 101);
        hears(1, values, 15, 40, 40, 3);
        hears(1, values, 15, 40, 40, 5);
    }

    private static void heardFrom() {
        int[] values = {5, 11, 5, 2};
        for (int p = 0; p < 4; p++) {
            hears(values[p], values, 15, 41, p);
            hears(values[p], values, 1 << p, 41, p);
            hears(0, values, 15 & ~(1 << p), 41, p);
        }
        for (int p = 4; p <= 15; p++) {
            hears(0, values, 15, 41, p);
        }
        // Numbers above 31 must not come round to a process again.
        for (int k = 2; k <= 6; k++) {
            hears(0, values, 15, 41, 20, 22, k, 15, k);
            hears(0, values, 15, 41, 22, 8, 4 * k / 2);
        }
        hears(0, values, 15, 41, 22, 15, 15);
        hears(2, values, 15, 41, 20, 1, 41, 3);
        hears(0, values, 15, 41, 41, 0);
    }

    private static void nothingHeard() {
        int[] values = {5, 6, 7};
        for (int word = 35; word <= 39; word++) {
            hears(0, values, 0, word);
        }
        hears(0, values, 0, 40, 5);
        hears(0, values, 0, 40, 0);
        hears(0, values, 0, 41, 0);
        hears(1, values, 0, 29, 35);
        // Nor does one that hears none learn what the one before it has heard.
        for (int word = 35; word <= 39; word++) {
            Lab lab = checked(1, 2, 15, 15, 101, word, 101);
            lab.inputs(7, 7);
            lab.start(2);
            lab.hear(1, 0);
            lab.round();
            Checks.due("of none, behind one who hears: " + word, 0, () -> lab.state(1, 0));
        }
    }
}
