import com.sun.management.ThreadMXBean;
import java.lang.management.ManagementFactory;

/** A long run of the dearest calls stays small: rows are made once, and used again. */
public final class RoomTest {
    private static final int CALLS = 500;
    private static final long MOST_BYTES_OF_AN_OBJECT = 64 * 1024;
    private static final long MOST_BYTES_OF_ITS_CALLS = 64 * 1024;

    private static final ThreadMXBean MEMORY =
            (ThreadMXBean) ManagementFactory.getThreadMXBean();

    public static void main(String[] args) {
        // The first object and its calls load the classes, which is not what is measured.
        callsOf(new RoundLab());
        long before = made();
        RoundLab lab = new RoundLab();
        few("a new object", made() - before, MOST_BYTES_OF_AN_OBJECT);
        before = made();
        callsOf(lab);
        few("its calls", made() - before, MOST_BYTES_OF_ITS_CALLS);
        Checks.finish();
    }

    private static long made() {
        return MEMORY.getThreadAllocatedBytes(Thread.currentThread().getId());
    }

    private static void few(String what, long bytes, long most) {
        Checks.compare("bytes that were made by " + what, "few", bytes <= most ? "few" : bytes + "");
    }

    private static void callsOf(RoundLab lab) {
        for (int c = 0; c < CALLS / 10; c++) {
            lab.builtin(c % 3);
            lab.check();
            lab.input(c % 7, c % 16);
            lab.start(7);
            lab.hear(c % 7, c);
            lab.round();
            lab.explore(3, 5, 3, 0);
            lab.explore(3, 5, 2, 2);
            lab.explore(3, 5, 3, 1);
            lab.explore(3, 5, 3, 3);
        }
    }
}
