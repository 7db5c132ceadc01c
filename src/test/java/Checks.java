import java.util.NoSuchElementException;

/** What all tests share: calls are compared with what is due, and wrong answers are printed. */
final class Checks {
    static final Class<NoSuchElementException> NO_ELEMENT = NoSuchElementException.class;
    static final Class<IllegalArgumentException> ARGUMENT = IllegalArgumentException.class;
    static final Class<IllegalStateException> STATE = IllegalStateException.class;

    private static int done = 0;
    private static int wrong = 0;

    private Checks() {
    }

    interface Call {
        int answer();
    }

    static void due(String what, int want, Call call) {
        String got;
        try {
            got = String.valueOf(call.answer());
        } catch (RuntimeException e) {
            got = e.getClass().getSimpleName();
        }
        compare(what, String.valueOf(want), got);
    }

    /** The call must throw just this exception, and change nothing that can be seen. */
    static void refused(String what, Class<? extends RuntimeException> want, RoundLab lab, Call call) {
        String before = seen(lab);
        String got;
        try {
            got = String.valueOf(call.answer());
        } catch (RuntimeException e) {
            got = e.getClass().getSimpleName();
        }
        compare(what, want.getSimpleName(), got);
        compare(what + " changes nothing", before, seen(lab));
    }

    static void compare(String what, String want, String got) {
        done++;
        if (!want.equals(got)) {
            wrong++;
            System.out.println(what + ": answered " + got + ", due is " + want);
        }
    }

    static void finish() {
        System.out.println(done + " checks, " + wrong + " wrong");
        if (wrong != 0 || done == 0) {
            System.exit(1);
        }
    }

    /** A new object with these words. */
    static RoundLab of(int... words) {
        RoundLab lab = new RoundLab();
        for (int word : words) {
            lab.word(word);
        }
        return lab;
    }

    /** A new object with these words as a checked program. */
    static RoundLab checked(int... words) {
        RoundLab lab = of(words);
        int error = lab.check();
        compare("check() of a test's program", "0", String.valueOf(error));
        return lab;
    }

    static int start(RoundLab lab, int n) {
        lab.start(n);
        return 0;
    }

    static void inputs(RoundLab lab, int... values) {
        for (int p = 0; p < values.length; p++) {
            lab.input(p, values[p]);
        }
    }

    static int rounds(RoundLab lab, int howMany) {
        int answer = lab.count(3);
        for (int r = 0; r < howMany; r++) {
            answer = lab.round();
        }
        return answer;
    }

    /** All that an object answers, as one text; afterwards the object is as it was. */
    static String seen(RoundLab lab) {
        StringBuilder text = new StringBuilder();
        for (int what = 0; what < 6; what++) {
            text.append(lab.count(what)).append(what < 5 ? ' ' : '\n');
        }
        for (int i = 0; i < lab.count(0); i++) {
            text.append(lab.at(i)).append(' ');
        }
        text.append("\ntrace");
        for (int i = 0; i < 20; i++) {
            int place = i;
            text.append(' ').append(orRefusal(() -> lab.trace(place)));
        }
        text.append("\ninputs");
        for (int p = 0; p < 7; p++) {
            int value = lab.input(p, 0);
            lab.input(p, value);
            text.append(' ').append(value);
        }
        text.append("\ndeep");
        for (int phase = 0; phase < 4; phase++) {
            for (int part = -1; part < 5; part++) {
                int h = phase;
                int t = part;
                text.append(' ').append(orRefusal(() -> lab.deep(h, t)));
            }
        }
        return text + run(lab);
    }

    private static String run(RoundLab lab) {
        StringBuilder text = new StringBuilder("\nrun");
        for (int p = 0; p < 7; p++) {
            int process = p;
            text.append("; ").append(orRefusal(() -> lab.message(process)));
            text.append(' ').append(orRefusal(() -> lab.decided(process)));
            for (int v = 0; v < 5; v++) {
                int variable = v;
                text.append(' ').append(orRefusal(() -> lab.state(process, variable)));
            }
            text.append(' ').append(orRefusal(() -> {
                int set = lab.hear(process, 0);
                lab.hear(process, set);
                return set;
            }));
        }
        return text.toString();
    }

    private static String orRefusal(Call call) {
        try {
            return String.valueOf(call.answer());
        } catch (RuntimeException e) {
            return e.getClass().getSimpleName().substring(0, 9);
        }
    }
}
