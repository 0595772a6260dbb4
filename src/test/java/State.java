import java.util.LinkedHashMap;
import java.util.Map;

/** All that calls can find out about the state of an object, part by part. The object is used up by that. */
final class State {
    private static final int TABLES = 3;

    private State() {
    }

    static Map<String, String> parts(NonogramSolver solver) {
        Map<String, String> parts = new LinkedHashMap<>();
        parts.put("size", solver.rowCount() + "x" + solver.columnCount() + " with " + solver.colorCount());
        parts.put("clues", Runs.clues(solver));
        parts.put("cells", Runs.cells(solver));
        parts.put("contradiction", solver.contradictionLine() + ", " + solver.contradictionDepth());
        parts.put("formatted", Runs.formattedText(solver));
        parts.put("rule", "" + solver.setRule(0));
        for (int table = 0; table < TABLES; table++) {
            parts.put("table " + table, table(solver, table));
        }
        parts.put("edits", edits(solver));
        parts.put("snapshot", snapshot(solver));
        parts.put("text", text(solver));
        return parts;
    }

    private static String table(NonogramSolver solver, int table) {
        if (solver.readTable(table, 0) == NonogramSolver.MISSING_TABLE && solver.writeTable(table, 0, 0) != 1) {
            return "missing";
        }
        StringBuilder result = new StringBuilder();
        int length = 0;
        // A write tells whether there is such an element, which a read does not, as elements may be like error codes.
        while (length < 64) {
            int element = solver.readTable(table, length);
            if (solver.writeTable(table, length, 300) != 1) {
                break;
            }
            // Of 300, a byte keeps 44 and a boolean 1.
            result.append(element).append(" in ").append(solver.readTable(table, length)).append("; ");
            length++;
        }
        boolean isBoolean = solver.compareTable(table) != NonogramSolver.WRONG_TYPE;
        return length + " elements: " + result + (isBoolean ? "boolean" : "numbers");
    }

    /** Undoes all edits, and tells what stands behind each. */
    private static String edits(NonogramSolver solver) {
        StringBuilder result = new StringBuilder();
        result.append(solver.undoCount()).append(": ");
        int left = solver.undo();
        for (int edit = 0; edit < 9 && left >= 0; edit++) {
            result.append(left).append(' ').append(Runs.clues(solver)).append(' ').append(Runs.cells(solver));
            result.append("; ");
            left = solver.undo();
        }
        return result.append(left).toString();
    }

    private static String snapshot(NonogramSolver solver) {
        int answer = solver.restore();
        return answer < 0 ? "none: " + answer
            : answer + " " + solver.rowCount() + "x" + solver.columnCount() + " with " + solver.colorCount() + " "
                + Runs.clues(solver) + " " + Runs.cells(solver);
    }

    /** Continues the text so that a text of one clue is read, in a grid that takes all letters. */
    private static String text(NonogramSolver solver) {
        solver.reset(1, 1, 3);
        int length = solver.appendText('/');
        int answer = solver.parseClues();
        return length + ", " + answer + ", " + Runs.clues(solver);
    }
}
