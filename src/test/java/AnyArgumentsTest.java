import java.lang.reflect.Method;
import java.lang.reflect.Modifier;

/**
 * Calls every method with arguments from far outside to far outside, in several states. No call may throw, and a call
 * that returns an error code leaves the state unchanged unless the document says otherwise.
 */
public final class AnyArgumentsTest {
    private static final int[] VALUES = {Integer.MIN_VALUE, -33, -1, 0, 1, 2, 3, 5, 8, 9, 16, 20, 32, 64, 65, 126,
        Integer.MAX_VALUE};
    private static final int STATES = 4;

    public static void main(String[] args) {
        Runs runs = new Runs();
        for (Method method : NonogramSolver.class.getDeclaredMethods()) {
            if (Modifier.isPublic(method.getModifiers())) {
                callWithAll(runs, method);
            }
        }
        runs.end();
    }

    private static void callWithAll(Runs runs, Method method) {
        int parameters = method.getParameterCount();
        int combinations = (int) Math.pow(VALUES.length, parameters);
        for (int state = 0; state < STATES; state++) {
            for (int number = 0; number < combinations; number++) {
                Object[] arguments = new Object[parameters];
                int rest = number;
                for (int i = 0; i < parameters; i++) {
                    arguments[i] = VALUES[rest % VALUES.length];
                    rest /= VALUES.length;
                }
                callOnce(runs, method.getName(), arguments, state);
            }
        }
    }

    private static void callOnce(Runs runs, String name, Object[] arguments, int state) {
        NonogramSolver solver = make(state);
        boolean canChange = mayChangeWithError(name);
        long before = canChange ? 0 : look(solver);
        int answer = Runs.call(solver, name, arguments);
        if (answer < 0 && !canChange) {
            runs.holds(name + java.util.Arrays.toString(arguments) + " in state " + state + " changed nothing",
                look(solver) == before);
        } else {
            runs.holds(name, true);
        }
    }

    private static boolean mayChangeWithError(String name) {
        return switch (name) {
            case "parseClues", "exportCandidates", "solveLine", "propagate", "probeAll" -> true;
            default -> false;
        };
    }

    private static NonogramSolver make(int state) {
        NonogramSolver solver = new NonogramSolver();
        switch (state) {
            case 1 -> {
                solver.reset(8, 8, 3);
                solver.drawPicture(7);
                solver.clearCells();
                solver.keepOnly(1, 1, 1);
                solver.save();
                solver.formatClues();
                solver.createTable(1, 1, 64);
            }
            case 2 -> {
                solver.reset(1, 8, 2);
                for (int run = 0; run < 8; run++) {
                    solver.addRun(0, 1, 1 + run % 2);
                }
                solver.addRun(1, 2, 1);
                solver.solveLine(1);
                solver.createTable(0, 0, 0);
                solver.createTable(2, 2, 3);
                solver.appendText('1');
            }
            case 3 -> {
                solver.reset(2, 3, 1);
                solver.propagate();
                solver.takeClues();
                for (int i = 0; i < 120; i++) {
                    solver.appendText('/');
                }
            }
            default -> { }
        }
        return solver;
    }

    /** A number that depends on nearly all that can be seen of the state. */
    private static long look(NonogramSolver solver) {
        long look = solver.rowCount() * 31L + solver.columnCount() * 7L + solver.colorCount();
        for (int row = 0; row < solver.rowCount(); row++) {
            for (int column = 0; column < solver.columnCount(); column++) {
                look = look * 31 + solver.candidates(row, column);
            }
        }
        for (int line = 0; line < solver.rowCount() + solver.columnCount(); line++) {
            look = look * 31 + solver.runCount(line);
            for (int run = 0; run < solver.runCount(line); run++) {
                look = look * 31 + solver.runLength(line, run) * 4 + solver.runColor(line, run);
            }
        }
        look = look * 31 + solver.undoCount();
        look = look * 31 + solver.contradictionLine();
        look = look * 31 + solver.contradictionDepth();
        for (int table = 0; table < 3; table++) {
            for (int index = 0; index < 4; index++) {
                look = look * 31 + solver.readTable(table, index);
            }
            look = look * 31 + solver.readTable(table, 63);
        }
        return look * 31 + solver.formattedCharacter(0);
    }
}
