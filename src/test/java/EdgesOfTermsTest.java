import java.util.Arrays;

/** The sentences of 'Terms' on programs, expressions and errors that name an edge, one by one. */
public final class EdgesOfTermsTest extends Programs {
    private static final int LEAST = Integer.MIN_VALUE;
    private static final int GREATEST = Integer.MAX_VALUE;

    public static void main(String[] args) {
        programs();
        numbersAndVariables();
        arithmetic();
        comparisonsAndChoices();
        roundsAndProcesses();
        messagesThatAreHeard();
        depths();
        errors();
        Checks.finish();
    }

    private static void is(String words, Runnable test) {
        Checks.sentence("Terms", words, test);
    }

    private static void programs() {
        is("a row of at most 400 WORDS", EdgesOfTermsTest::fullProgram);
        is("how many PHASES there are (1 .. 4)", EdgesOfTermsTest::phases);
        is("how many VARIABLES (2 .. 5)", EdgesOfTermsTest::variables);
        is("for each variable its RANGE r (0 .. 15)", EdgesOfTermsTest::ranges);
        is("it has a value 0 .. r", EdgesOfTermsTest::valuesUpToARange);
        is("an EXPRESSION for the message, and one for each variable, its next value; nothing more",
                EdgesOfTermsTest::nothingMore);
    }

    private static void fullProgram() {
        Lab lab = checked(full(11));
        Checks.due("words", 400, () -> lab.count(0));
        Checks.due("deep(0, -1)", 2, () -> lab.deep(0, -1));
        Checks.due("deep(3, 4)", 9, () -> lab.deep(3, 4));
        lab.start(7);
        Checks.due("rounds", 4, () -> lab.rounds(4));
        Checks.due("what the last word is for", 11, () -> lab.state(6, 4));
        Checks.due("the other next values", 0, () -> lab.state(6, 3));
    }

    /** So many phases and variables, with range 15 for all, and the number 7 as each expression. */
    private static int[] sevens(int phases, int variables) {
        int[] ranges = new int[variables];
        Arrays.fill(ranges, 15);
        int[] expressions = new int[phases * (variables + 1)];
        Arrays.fill(expressions, 7);
        return joined(new int[] {phases, variables}, ranges, expressions);
    }

    private static void phases() {
        for (int wrong : new int[] {LEAST, -1, 0, 5, 6, GREATEST}) {
            errorAt(1, wrong);
            errorAt(1, wrong, 2, 15, 15, 7, 7, 7);
        }
        errorAt(1, joined(new int[] {0}, Arrays.copyOfRange(sevens(1, 2), 1, 4)));
        for (int phases = 1; phases <= 4; phases++) {
            int number = phases;
            Lab lab = checked(sevens(phases, 2));
            Checks.due("the last phase", 1, () -> lab.deep(number - 1, 1));
            Checks.refused("a phase more", Checks.NO_ELEMENT, lab, () -> lab.deep(number, 1));
        }
        errorAt(1, sevens(5, 2));
    }

    private static void variables() {
        for (int wrong : new int[] {LEAST, -1, 0, 1, 6, GREATEST}) {
            errorAt(2, 1, wrong);
            errorAt(2, 1, wrong, 15, 15, 7, 7, 7);
        }
        for (int variables = 2; variables <= 5; variables++) {
            int number = variables;
            Lab lab = checked(sevens(1, variables));
            lab.start(1);
            lab.round();
            Checks.due("the last variable", 7, () -> lab.state(0, number - 1));
            Checks.refused("a variable more", Checks.NO_ELEMENT, lab, () -> lab.state(0, number));
        }
        errorAt(2, sevens(1, 1));
        errorAt(2, sevens(1, 6));
    }

    private static void ranges() {
        for (int variables = 2; variables <= 5; variables++) {
            for (int v = 0; v < variables; v++) {
                int[] words = sevens(2, variables);
                for (int wrong : new int[] {LEAST, -1, 16, 17, 100, GREATEST}) {
                    words[2 + v] = wrong;
                    errorAt(3 + v, words);
                }
                for (int right : new int[] {0, 1, 14, 15}) {
                    words[2 + v] = right;
                    errorAt(0, words);
                }
            }
        }
    }

    private static void valuesUpToARange() {
        for (int range = 0; range <= 15; range++) {
            for (int value = 0; value <= 15; value++) {
                Lab lab = checked(1, 2, range, range, value, value, value);
                lab.input(0, value);
                lab.start(1);
                int due = value < range ? value : range;
                Checks.due("input " + value + " in range " + range, due, () -> lab.state(0, 1));
                lab.round();
                Checks.due("next " + value + " in range " + range, due, () -> lab.state(0, 0));
                Checks.due("next " + value + " in range " + range, due, () -> lab.state(0, 1));
                int message = value;
                Checks.due("a message has no range", message, () -> lab.message(0));
            }
        }
    }

    private static void nothingMore() {
        for (int phases = 1; phases <= 4; phases++) {
            for (int variables = 2; variables <= 5; variables++) {
                int[] words = sevens(phases, variables);
                errorAt(0, words);
                for (int more : new int[] {0, 7, 29, 35, 100, -1, 999}) {
                    errorAt(words.length + 1, joined(words, new int[] {more}));
                    errorAt(words.length + 1, joined(words, new int[] {more, more}));
                }
                errorAt(words.length, Arrays.copyOf(words, words.length - 1));
            }
        }
    }

    private static void numbersAndVariables() {
        is("0 .. 15: this number", () -> {
            worth(0, 0);
            worth(15, 15);
            for (int wrong : new int[] {LEAST, -100, -1, 16, 17, 18, 19, GREATEST}) {
                errorAt(5, withHead(wrong, 0, 0));
                errorAt(7, withHead(0, 0, wrong));
                errorAt(7, withHead(0, 20, wrong, 0, 0));
            }
        });
        is("100 + v: variable v", () -> {
            for (int variables = 2; variables <= 5; variables++) {
                int[] words = sevens(1, variables);
                for (int place : new int[] {2 + variables, words.length - 1}) {
                    for (int wrong : new int[] {99, 100 + variables, 106, 115, 100 + GREATEST}) {
                        words[place] = wrong;
                        errorAt(place + 1, words);
                    }
                    words[place] = 100;
                    errorAt(0, words);
                    words[place] = 100 + variables - 1;
                    errorAt(0, words);
                }
                Lab lab = checked(words);
                lab.start(1);
                lab.rounds(2);
                int last = variables - 1;
                Checks.due("the last variable as its message", 0, () -> lab.message(0));
                Checks.due("the last variable as it was", 0, () -> lab.state(0, last));
                Checks.due("the first variable", 7, () -> lab.state(0, 0));
            }
        });
        is("20 ADD .. 41 FROM", () -> {
            for (int wrong : new int[] {16, 19, 42, 43, 50, 99, -20, -41}) {
                errorAt(6, withHead(0, wrong, 0, 0, 0));
            }
        });
    }

    private static void arithmetic() {
        is("what is above 99 becomes 99", () -> {
            worth(98, 20, 22, 7, 14, 0);
            worth(99, 20, 22, 7, 14, 1);
            worth(99, 20, 22, 7, 14, 2);
            worth(99, 22, 9, 11);
            worth(99, 22, 10, 10);
            worth(99, 22, 15, 15);
            worth(99, 22, 22, 15, 15, 22, 15, 15);
            worth(84, 21, 22, 15, 15, 15);
            worth(9, 24, 20, 22, 9, 11, 1, 10);
        });
        is("what is below 0 becomes 0", () -> {
            worth(1, 21, 6, 5);
            worth(0, 21, 5, 5);
            worth(0, 21, 5, 6);
            worth(0, 21, 0, 22, 15, 15);
            worth(1, 20, 21, 0, 15, 1);
            worth(15, 21, 15, 21, 0, 15);
        });
        is("a / b cut off", () -> {
            worth(0, 23, 0, 15);
            worth(0, 23, 14, 15);
            worth(1, 23, 15, 15);
            worth(1, 23, 15, 8);
            worth(2, 23, 15, 7);
            worth(49, 23, 22, 9, 11, 2);
            worth(0, 23, 15, 22, 9, 11);
        });
        is("what is left of that", () -> {
            worth(0, 24, 0, 15);
            worth(14, 24, 14, 15);
            worth(0, 24, 15, 15);
            worth(7, 24, 15, 8);
            worth(0, 24, 15, 1);
            worth(9, 24, 22, 9, 11, 10);
            worth(15, 24, 15, 22, 9, 11);
        });
        is("0 for both if b is 0", () -> {
            for (int a : new int[] {0, 1, 15}) {
                worth(0, 23, a, 0);
                worth(0, 24, a, 0);
                worth(0, 23, 22, a, 15, 21, 3, 4);
                worth(0, 24, 22, a, 15, 21, 3, 4);
            }
        });
    }

    private static void comparisonsAndChoices() {
        is("25 SAME, 26 LESS: 1 or 0", () -> {
            for (int[] pair : new int[][] {{0, 0}, {0, 1}, {1, 0}, {14, 15}, {15, 14}, {15, 15}}) {
                worth(pair[0] == pair[1] ? 1 : 0, 25, pair[0], pair[1]);
                worth(pair[0] < pair[1] ? 1 : 0, 26, pair[0], pair[1]);
            }
            worth(1, 25, 22, 10, 10, 22, 15, 15);
            worth(0, 26, 22, 10, 10, 22, 15, 15);
            worth(1, 25, 21, 3, 9, 0);
        });
        is("27 AND (both are not 0), 28 OR: 1 or 0", () -> {
            for (int a : new int[] {0, 1, 2, 15}) {
                for (int b : new int[] {0, 1, 2, 4, 15}) {
                    worth(a > 0 && b > 0 ? 1 : 0, 27, a, b);
                    worth(a > 0 || b > 0 ? 1 : 0, 28, a, b);
                }
            }
        });
        is("29 NOT (of one part): 1 if it is 0, else 0", () -> {
            worth(1, 29, 0);
            worth(0, 29, 1);
            worth(0, 29, 2);
            worth(0, 29, 22, 15, 15);
            worth(1, 29, 21, 0, 1);
        });
        is("30 IF: the second one if the first one is not 0, else the third one", () -> {
            worth(8, 30, 0, 7, 8);
            worth(7, 30, 1, 7, 8);
            worth(7, 30, 2, 7, 8);
            worth(7, 30, 22, 15, 15, 7, 8);
            worth(8, 30, 21, 0, 1, 7, 8);
        });
    }

    /** A run by one phase or more of an expression as the message and the first next value. */
    private static Lab runOf(int expression, int phases, int processes) {
        int[] words = {phases, 2, 15, 15};
        for (int phase = 0; phase < phases; phase++) {
            words = joined(words, new int[] {expression, expression, 0});
        }
        Lab lab = checked(words);
        lab.start(processes);
        return lab;
    }

    private static void afterRound(Lab lab, int round, int due) {
        lab.rounds(round + 1 - lab.count(3));
        Checks.due("message of round " + round, due, () -> lab.message(0));
        Checks.due("next value of round " + round, due, () -> lab.state(0, 0));
    }

    private static void roundsAndProcesses() {
        is("31 ME: the process's number. 32 ALL: how many processes", () -> {
            for (int n = 1; n <= 7; n++) {
                Lab me = runOf(31, 1, n);
                Lab all = runOf(32, 1, n);
                me.round();
                all.round();
                int number = n;
                Checks.due("ME of the first", 0, () -> me.message(0));
                Checks.due("ME of the last", n - 1, () -> me.state(number - 1, 0));
                Checks.due("ALL", n, () -> all.message(number - 1));
                Checks.due("ALL", n, () -> all.state(0, 0));
            }
        });
        is("33 CYCLE: how often all phases were gone through before, 15 at most", () -> {
            Lab one = runOf(33, 1, 2);
            int[][] due = {{0, 0}, {1, 1}, {14, 14}, {15, 15}, {16, 15}, {17, 15}, {59, 15}};
            for (int[] row : due) {
                afterRound(one, row[0], row[1]);
            }
            Lab three = runOf(33, 3, 1);
            due = new int[][] {{2, 0}, {3, 1}, {44, 14}, {45, 15}, {47, 15}, {48, 15}, {59, 15}};
            for (int[] row : due) {
                afterRound(three, row[0], row[1]);
            }
            Lab four = runOf(33, 4, 1);
            due = new int[][] {{0, 0}, {3, 0}, {4, 1}, {7, 1}, {8, 2}, {55, 13}, {56, 14}, {59, 14}};
            for (int[] row : due) {
                afterRound(four, row[0], row[1]);
            }
        });
        is("34 LEADER: CYCLE (not cut to 15) modulo ALL", () -> {
            int[][] due = {{0, 0}, {6, 6}, {7, 0}, {13, 6}, {14, 0}, {15, 1}, {16, 2}, {20, 6}, {21, 0},
                {59, 3}};
            Lab seven = runOf(34, 1, 7);
            for (int[] row : due) {
                afterRound(seven, row[0], row[1]);
            }
            Lab alone = runOf(34, 1, 1);
            for (int round : new int[] {0, 1, 15, 16, 59}) {
                afterRound(alone, round, 0);
            }
            Lab two = runOf(34, 2, 2);
            due = new int[][] {{1, 0}, {2, 1}, {3, 1}, {4, 0}, {31, 1}, {32, 0}, {34, 1}, {59, 1}};
            for (int[] row : due) {
                afterRound(two, row[0], row[1]);
            }
        });
    }

    private static void messagesThatAreHeard() {
        is("Only for next values, of the messages that it hears", EdgesOfTermsTest::onlyForNextValues);
        is("35 HEARD: how many", () -> {
            int[] seven = {1, 2, 3, 4, 5, 6, 7};
            hears(0, seven, 0, 35);
            hears(1, seven, 0b1000000, 35);
            hears(6, seven, 0b1111110, 35);
            hears(7, seven, 0b1111111, 35);
            hears(1, new int[] {9}, 1, 35);
            hears(0, new int[] {9}, 0, 35);
        });
        is("36 LEAST, 37 GREATEST: of their values", () -> {
            int[] values = {4, 15, 0, 9};
            hears(0, values, 0b1111, 36);
            hears(15, values, 0b1111, 37);
            hears(4, values, 0b1011, 36);
            hears(9, values, 0b1101, 37);
            hears(9, values, 0b1000, 36);
            hears(9, values, 0b1000, 37);
            hears(0, values, 0b0100, 37);
        });
        is("38 MOST: the value that most of them have, the least of several", () -> {
            hears(3, new int[] {5, 3, 5, 3}, 0b1111, 38);
            hears(3, new int[] {3, 5, 3, 5}, 0b1111, 38);
            hears(5, new int[] {5, 3, 5, 3}, 0b0111, 38);
            hears(0, new int[] {9, 0, 9, 0}, 0b1111, 38);
            hears(1, new int[] {7, 6, 5, 4, 3, 2, 1}, 0b1111111, 38);
            hears(2, new int[] {7, 6, 5, 4, 3, 2, 1}, 0b0111111, 38);
            hears(6, new int[] {9, 9, 8, 8, 6, 6, 0}, 0b0111111, 38);
            hears(9, new int[] {9, 9, 8, 8, 6, 6, 9}, 0b1111111, 38);
        });
        is("39 TIMES: how many have that one", () -> {
            hears(2, new int[] {5, 3, 5, 3}, 0b1111, 39);
            hears(1, new int[] {5, 3, 5, 3}, 0b0011, 39);
            hears(7, new int[] {4, 4, 4, 4, 4, 4, 4}, 0b1111111, 39);
            hears(2, new int[] {0, 0, 7}, 0b111, 39);
        });
        is("40 COUNT (one part): how many have this value", () -> {
            int[] values = {0, 15, 0, 15, 15};
            hears(2, values, 0b11111, 40, 0);
            hears(3, values, 0b11111, 40, 15);
            hears(0, values, 0b11111, 40, 14);
            hears(0, values, 0b11010, 40, 0);
            hears(0, values, 0b11111, 40, 22, 15, 15);
        });
        is("41 FROM (one part): the value of the message of the process with this number",
                EdgesOfTermsTest::fromProcesses);
        is("(What is of none is 0.)", EdgesOfTermsTest::ofNone);
    }

    private static void onlyForNextValues() {
        for (int word = 35; word <= 41; word++) {
            int[] expression = word < 40 ? new int[] {word} : new int[] {word, 0};
            errorAt(5, joined(HEAD, expression, new int[2]));
            errorAt(6, joined(HEAD, new int[] {29}, expression, new int[2]));
            errorAt(8, joined(new int[] {2, 2, 15, 15}, new int[3], expression, new int[2]));
            errorAt(0, joined(HEAD, new int[1], expression, new int[1]));
            errorAt(0, joined(HEAD, new int[2], expression));
            errorAt(0, joined(HEAD, new int[2], new int[] {29}, expression));
            errorAt(0, joined(new int[] {2, 2, 15, 15}, new int[5], expression));
        }
        errorAt(0, withHead(34, 34, 34));
    }

    private static void fromProcesses() {
        int[] seven = {11, 12, 13, 14, 15, 1, 2};
        for (int p = 0; p < 7; p++) {
            hears(seven[p], seven, 127, 41, p);
            hears(seven[p], seven, 1 << p, 41, p);
            hears(0, seven, 127 - (1 << p), 41, p);
        }
        for (int none : new int[] {7, 8, 15}) {
            hears(0, seven, 127, 41, none);
        }
        // 31 .. 33, 63 .. 65 and 99: whoever shifts by them must not come round to process 0 or 1.
        for (int[] none : new int[][] {{20, 22, 2, 15, 1}, {22, 4, 8}, {20, 22, 4, 8, 1}, {22, 7, 9},
            {22, 8, 8}, {20, 22, 8, 8, 1}, {22, 15, 15}}) {
            hears(0, seven, 127, joined(new int[] {41}, none));
        }
        hears(0, new int[] {5, 6}, 0b11, 41, 2);
    }

    private static void ofNone() {
        for (int[] values : new int[][] {{9}, {9, 8, 7}, {9, 9, 9, 9, 9, 9, 9}}) {
            for (int word = 35; word <= 39; word++) {
                hears(0, values, 0, word);
            }
            for (int number : new int[] {0, 9, 15}) {
                hears(0, values, 0, 40, number);
                hears(0, values, 0, 41, number);
            }
        }
    }

    private static void depths() {
        is("An expression lies at most twelve deep", () -> {
            for (int part = -1; part < 2; part++) {
                int number = part;
                int[] words = joined(HEAD, new int[part + 1], nots(11, 1), new int[1 - part]);
                Lab lab = checked(words);
                Checks.due("twelve deep", 12, () -> lab.deep(0, number));
                errorAt(4 + part + 1 + 13,
                        joined(HEAD, new int[part + 1], nots(12, 1), new int[1 - part]));
            }
        });
        is("(one without parts is one deep)", () -> {
            for (int word : new int[] {0, 15, 31, 32, 33, 34, 100, 101}) {
                Lab lab = checked(withHead(word, word, word));
                Checks.due("message " + word, 1, () -> lab.deep(0, -1));
                Checks.due("next value " + word, 1, () -> lab.deep(0, 1));
            }
            for (int word = 35; word <= 39; word++) {
                Lab lab = checked(withHead(0, word, word));
                Checks.due("next value " + word, 1, () -> lab.deep(0, 0));
            }
            for (int word = 20; word <= 30; word++) {
                int parts = word == 29 ? 1 : word == 30 ? 3 : 2;
                Lab lab = checked(joined(HEAD, new int[] {word}, new int[parts], new int[2]));
                Checks.due("message " + word, 2, () -> lab.deep(0, -1));
            }
            for (int word = 40; word <= 41; word++) {
                Lab lab = checked(withHead(0, word, 35, word, word, 0));
                Checks.due("next value " + word, 2, () -> lab.deep(0, 0));
                Checks.due("next value " + word, 3, () -> lab.deep(0, 1));
            }
        });
        is("the word that would be the thirteenth is an error", EdgesOfTermsTest::thirteenth);
    }

    private static void thirteenth() {
        for (int word : new int[] {0, 15, 20, 29, 30, 31, 101, 16, -1, 35, 999}) {
            errorAt(17, joined(HEAD, nots(12, word), new int[6]));
        }
        errorAt(17, joined(HEAD, Arrays.copyOf(nots(12, 0), 12)));
        // Each part of a word lies as deep as the others, whatever stands in those ahead of it.
        for (int word : new int[] {20, 28, 30}) {
            int parts = word == 30 ? 3 : 2;
            for (int part = 0; part < parts; part++) {
                int[] ahead = joined(new int[] {word}, new int[part]);
                int[] behind = new int[parts - 1 - part + 2];
                errorAt(0, joined(HEAD, ahead, nots(10, 1), behind));
                errorAt(4 + 1 + part + 12, joined(HEAD, ahead, nots(11, 1), behind));
            }
        }
        errorAt(0, joined(HEAD, new int[] {20}, nots(10, 1), nots(10, 1), new int[2]));
        errorAt(4 + 1 + 11 + 12, joined(HEAD, new int[] {20}, nots(10, 1), nots(11, 1), new int[2]));
    }

    private static void errors() {
        is("at the first word, in their order, that can't stand where it is", () -> {
            errorAt(1, -1, -1, -1);
            errorAt(2, 4, 6, 16, 16, 99);
            errorAt(4, 1, 2, 15, 16, 99, 99, 99);
            errorAt(5, withHead(99, 99, 99));
            errorAt(6, withHead(0, 102, 42));
            errorAt(6, withHead(20, 16, 17, 0, 0));
            errorAt(7, withHead(20, 15, 35, 99, 99));
            errorAt(5, withHead(42));
            errorAt(6, joined(HEAD, new int[] {0, 42}, nots(12, 0)));
        });
        is("one that is too much", () -> {
            errorAt(8, withHead(0, 0, 0, 0));
            errorAt(8, withHead(0, 0, 0, 999, 999));
            errorAt(7, withHead(0, 0, 99, 0));
            int[] words = joined(new int[] {4, 5, 15, 15, 15, 15, 15}, new int[24], new int[369]);
            Checks.compare("the words", "400", String.valueOf(words.length));
            errorAt(32, words);
            int[] last = full(0);
            System.arraycopy(joined(new int[] {29, 1}, new int[22], sum(367, 0), nots(1, 0)), 0, last, 7,
                    393);
            errorAt(399, last);
        });
        is("would be too deep, too", () -> {
            errorAt(17, joined(HEAD, nots(12, 0), new int[] {0, 99}));
            errorAt(17, joined(HEAD, nots(13, 0), new int[2]));
            errorAt(5, joined(HEAD, new int[] {99}, nots(12, 0), new int[2]));
        });
        is("if words are missing, at the place behind the last one", () -> {
            errorAt(1);
            int[] words = joined(new int[] {2, 3, 0, 1, 2}, new int[] {30, 0, 20, 1, 1, 29, 0}, new int[7]);
            for (int size = 0; size < words.length; size++) {
                errorAt(size + 1, Arrays.copyOf(words, size));
            }
            errorAt(0, words);
            errorAt(401, joined(new int[] {4, 5, 15, 15, 15, 15, 15}, nots(1, 1), new int[21],
                    sum(369, 1), new int[] {29}));
            errorAt(401, Arrays.copyOf(joined(Arrays.copyOf(full(0), 31), sum(371, 1)), 400));
            errorAt(400, Arrays.copyOf(full(0), 399));
        });
    }
}
