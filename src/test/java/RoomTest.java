import com.sun.management.ThreadMXBean;
import java.lang.management.ManagementFactory;

/** Calls share one room for all that they make, so only the constructor may make objects, and not many. */
public final class RoomTest {
    private static final ThreadMXBean THREADS = (ThreadMXBean) ManagementFactory.getThreadMXBean();
    private static final int MOST_BYTES_OF_OBJECT = 60_000;
    // The measuring itself may make a little.
    private static final int MOST_BYTES_OF_CALLS = 2_000;

    public static void main(String[] args) {
        Runs runs = new Runs();
        new NonogramSolver();
        long before = allocated();
        NonogramSolver solver = new NonogramSolver();
        long afterMaking = allocated();
        makeDearCalls(solver);
        long afterCalls = allocated();
        runs.holds("the room of an object: " + (afterMaking - before), afterMaking - before <= MOST_BYTES_OF_OBJECT);
        runs.holds("the room of calls: " + (afterCalls - afterMaking), afterCalls - afterMaking <= MOST_BYTES_OF_CALLS);
        runs.end();
    }

    private static long allocated() {
        return THREADS.getThreadAllocatedBytes(Thread.currentThread().getId());
    }

    private static void makeDearCalls(NonogramSolver solver) {
        solver.reset(8, 8, 3);
        solver.appendText('/');
        solver.parseClues();
        for (int line = 0; line < 16; line++) {
            solver.addRun(line, 1, 1 + line % 3);
            solver.addRun(line, 1, 1);
        }
        for (int round = 0; round < 10; round++) {
            solver.probeAll();
            solver.countSolutions(20);
            solver.solutionColor(1, 1, 1);
            solver.drawPicture(round);
            solver.takeClues();
            solver.clearCells();
            solver.probeAll();
            solver.save();
            solver.restore();
            solver.undo();
            solver.formatClues();
            solver.createTable(1, 1, 64);
            solver.exportCandidates(1);
        }
    }
}
