import com.sun.management.ThreadMXBean;
import java.lang.management.ManagementFactory;

/**
 * All calls of one run live in one room, so a call makes no more than the copy, the letter or the loan that it adds,
 * and a query makes nothing. The bounds leave a little for other machines, but not for an object a call.
 */
public final class RoomTest {
    private static final ThreadMXBean THREADS = (ThreadMXBean) ManagementFactory.getThreadMXBean();
    private static final long BYTES_OF_RUN = 20 * 1024;
    private static final long BYTES_OF_QUERIES = 100;

    private static final Checks checks = new Checks();
    private static ModelCopies full;
    private static long sum;

    public static void main(String[] args) {
        // What the machine makes when it first meets a class or a method is not the run's.
        fill();
        ask();
        fewer("a run to all copies, letters and loans makes bytes", BYTES_OF_RUN, RoomTest::fill);
        checks.due("its copies", full.copies(), 40);
        checks.due("its letters", full.letters(), 60);
        checks.due("its loans", full.loans(), 40);
        fewer("queries make bytes", BYTES_OF_QUERIES, RoomTest::ask);
        checks.end("RoomTest");
    }

    private static void fewer(String what, long most, Runnable run) {
        long before = THREADS.getCurrentThreadAllocatedBytes();
        run.run();
        long made = THREADS.getCurrentThreadAllocatedBytes() - before;
        checks.due(what + ", at most " + most + ": " + made, made <= most, true);
    }

    private static void fill() {
        full = new ModelCopies();
        for (int copy = 1; copy < 40; copy++) {
            for (int slip = 0; slip < 6; slip++) {
                full.slip((copy + slip) % 24, 1 + copy % 9);
            }
            full.copy(copy - 1, copy % 6, 0, copy % 2 == 0);
        }
        for (int letter = 0; letter < 60; letter++) {
            int other = full.reading(38, 0) == full.reading(39, 0) ? 0 : 38;
            full.correct(0, 39, other, 0);
        }
        for (int loan = 0; loan < 40; loan++) {
            full.lend(loan, 1 + loan % 4, 1, 0);
            full.giveBack(loan);
            full.workIn(0, loan);
        }
    }

    private static void ask() {
        for (int copy = 0; copy < 40; copy += 5) {
            sum += full.familyByErrors(copy) + full.family(copy) + full.guess(copy) + full.errors(copy);
            sum += full.shared(copy, 0) + full.spread(copy % 24, 1);
        }
        sum += full.families() + full.rightGuesses() + full.sources(0, 1) + full.coins(0) + full.letter(0);
    }
}
