import java.util.ArrayList;
import java.util.List;
import java.util.NoSuchElementException;

/** What all tests share: calls are compared with what is due, and wrong answers are printed. */
final class Checks {
    static final Class<NoSuchElementException> NO_ELEMENT = NoSuchElementException.class;
    static final Class<IllegalArgumentException> ARGUMENT = IllegalArgumentException.class;
    static final Class<IllegalStateException> STATE = IllegalStateException.class;

    private static int done = 0;
    private static int wrong = 0;
    private static int sentences = 0;
    private static String about = "";

    private Checks() {
    }

    interface Call {
        int answer();
    }

    /** The test of one sentence of the document, whose words are told with each wrong answer. */
    static void sentence(String where, String words, Runnable test) {
        int before = done;
        about = where + " \"" + words + "\": ";
        sentences++;
        try {
            test.run();
        } catch (RuntimeException e) {
            compare("the test", "ends", "is stopped by " + e);
        }
        compare("the test", "looks at something", done > before ? "looks at something" : "is empty");
        about = "";
    }

    static void due(String what, int want, Call call) {
        compare(what, String.valueOf(want), answer(call));
    }

    /** The call must throw just this exception, and change nothing that can be seen. */
    static void refused(String what, Class<? extends RuntimeException> want, Lab lab, Call call) {
        int before = lab.calls();
        compare(what, want.getSimpleName(), answer(call));
        compare(what + " is one call", String.valueOf(before + 1), String.valueOf(lab.calls()));
        compare(what + " changes nothing", seen(lab, before), seen(lab, before + 1));
    }

    static void compare(String what, String want, String got) {
        done++;
        if (!want.equals(got)) {
            wrong++;
            System.out.println(about + what + ": answered " + got + ", due is " + want);
        }
    }

    static void finish() {
        String tested = sentences == 0 ? "" : sentences + " sentences, ";
        System.out.println(tested + done + " checks, " + wrong + " wrong");
        if (wrong != 0 || done == 0) {
            System.exit(1);
        }
    }

    static String answer(Call call) {
        try {
            return String.valueOf(call.answer());
        } catch (RuntimeException e) {
            return e.getClass().getSimpleName();
        }
    }

    /**
     * All that an object answers behind its first calls, as one text, also when a round is added.
     * Twins of the object are asked, so that it stays as it is; each has only some calls left.
     */
    private static String seen(Lab lab, int calls) {
        StringBuilder text = new StringBuilder();
        int left = lab.callsLeft();
        look(text, lab, calls, List.of(), looks(), left);
        look(text, lab, calls, List.of(RoundLab::round), looksAtRun(), left);
        return text.toString();
    }

    private static void look(StringBuilder text, Lab lab, int calls, List<Lab.Step> ahead,
            List<Lab.Step> looks, int left) {
        int some = left - ahead.size();
        if (some < 1) {
            throw new AssertionError("no calls are left to look at an object");
        }
        for (int from = 0; from < looks.size(); from += some) {
            Lab twin = lab.twin(calls);
            for (Lab.Step step : ahead) {
                text.append(answer(() -> twin.call(step))).append(':');
            }
            for (Lab.Step step : looks.subList(from, Math.min(from + some, looks.size()))) {
                text.append(' ').append(answer(() -> twin.call(step)));
            }
        }
    }

    private static List<Lab.Step> looks() {
        List<Lab.Step> looks = new ArrayList<>();
        for (int k = 0; k < 6; k++) {
            int what = k;
            looks.add(lab -> lab.count(what));
        }
        for (int k = 0; k < 400; k++) {
            int place = k;
            looks.add(lab -> lab.at(place));
        }
        for (int k = 0; k < 19; k++) {
            int place = k;
            looks.add(lab -> lab.trace(place));
        }
        for (int k = 0; k < 24; k++) {
            int phase = k / 6;
            int part = k % 6 - 1;
            looks.add(lab -> lab.deep(phase, part));
        }
        for (int k = 0; k < 7; k++) {
            int p = k;
            looks.add(lab -> lab.input(p, 0));
            looks.add(lab -> lab.hear(p, 0));
        }
        looks.addAll(looksAtRun());
        return looks;
    }

    private static List<Lab.Step> looksAtRun() {
        List<Lab.Step> looks = new ArrayList<>();
        for (int k = 0; k < 7; k++) {
            int p = k;
            looks.add(lab -> lab.message(p));
            looks.add(lab -> lab.decided(p));
            for (int v = 0; v < 5; v++) {
                int variable = v;
                looks.add(lab -> lab.state(p, variable));
            }
        }
        return looks;
    }
}
