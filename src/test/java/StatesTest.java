/** Promises 40, 41, 42 and 48: undoing edits, and the snapshot. */
public final class StatesTest {
    private static final Runs RUNS = new Runs();
    private static final String[] EDITS = {"addRun(1, 2, 1)", "clearClue(0)", "keepOnly(0, 0, 1)",
        "eliminate(0, 2, 1)", "solveLine(0)", "propagate()", "probeAll()", "parseClues()"};
    private static final String[] NO_EDITS = {"setRule(1)", "rowCount()", "candidates(0, 0)", "color(0, 0)",
        "assignmentCount(0)", "assignmentColor(0, 0, 0)", "averageCandidates(0)", "passCount()", "probe(0, 0, 1)",
        "countSolutions(3)", "solutionColor(0, 0, 0)", "searchNodes(3)", "isUnique()", "firstMismatch()",
        "appendText(49)", "formatClues()", "save()", "createTable(0, 0, 9)", "exportCandidates(0)", "compareTable(0)",
        "contradictionLine()", "undoCount()", "takeClues()", "addRun(0, 9, 1)", "addRun(9, 1, 1)", "clearClue(6)",
        "keepOnly(0, 0, 2)", "eliminate(3, 0, 0)", "reset(0, 1, 1)", "parseClues()", "solveLine(-1)"};

    public static void main(String[] args) {
        undoEveryEdit();
        takeCluesIsEdit();
        noEdits();
        contradictionsAreNoEdits();
        atMostEight();
        undoKeeps();
        forgetting();
        snapshot();
        RUNS.end();
    }

    private static NonogramSolver smallPuzzle() {
        NonogramSolver solver = Runs.puzzle(3, 3, 1, "2a/1a/1a/2a/1a/1a");
        solver.clearCells();
        return solver;
    }

    private static String look(NonogramSolver solver) {
        StringBuilder look = new StringBuilder(Runs.formatted(solver));
        for (int row = 0; row < solver.rowCount(); row++) {
            for (int column = 0; column < solver.columnCount(); column++) {
                look.append(' ').append(solver.candidates(row, column));
            }
        }
        return look.toString();
    }

    private static void undoEveryEdit() {
        for (String edit : EDITS) {
            NonogramSolver solver = smallPuzzle();
            Runs.append(solver, "1a/1a/1a/1a/1a/1a");
            String before = look(solver);
            int answer = Runs.call(solver, edit);
            String after = look(solver);
            RUNS.holds(edit + " succeeds", answer >= 0);
            RUNS.due("promise 48, behind " + edit, solver.undoCount(), 1);
            boolean canKeepAll = edit.equals("probeAll()") || edit.equals("propagate()");
            RUNS.holds(edit + " changes something", canKeepAll || !after.equals(before));
            RUNS.due("promise 40, undo of " + edit, solver.undo(), 0);
            RUNS.same("promise 40, behind undo of " + edit, look(solver), before);
            RUNS.due("promise 40, undo again", solver.undo(), NonogramSolver.EMPTY);
        }
    }

    private static void takeCluesIsEdit() {
        RUNS.more("promise 40, takeClues", smallPuzzle(),
            "drawPicture(9); addRun(0, 1, 1); clearClue(0); runCount(0) -> 0; takeClues(); undoCount() -> 3",
            "undo() -> 2; runCount(0) -> 0");
    }

    private static void noEdits() {
        for (String call : NO_EDITS) {
            NonogramSolver solver = smallPuzzle();
            solver.eliminate(1, 1, 0);
            String before = look(solver);
            Runs.call(solver, call);
            RUNS.due("promise 48, no edit: " + call, solver.undoCount(), 1);
            RUNS.same(call + " changes no clues or candidates", look(solver), before);
        }
    }

    private static void contradictionsAreNoEdits() {
        for (String call : new String[] {"solveLine(2)", "propagate()", "probeAll()"}) {
            NonogramSolver solver = smallPuzzle();
            RUNS.more("a contradiction", solver, "keepOnly(1, 1, 1); addRun(2, 7, 1) -> 2");
            String before = look(solver);
            RUNS.due(call, Runs.call(solver, call), NonogramSolver.CONTRADICTION);
            RUNS.due("promise 48, behind " + call, solver.undoCount(), 2);
            RUNS.same("candidates behind " + call, look(solver), before);
        }
    }

    private static void atMostEight() {
        NonogramSolver solver = new NonogramSolver();
        for (int edit = 1; edit <= 11; edit++) {
            solver.addRun(edit % 5, edit % 8 + 1, 1);
            RUNS.due("promise 48, behind " + edit + " edits", solver.undoCount(), Math.min(edit, 8));
        }
        for (int left = 7; left >= 0; left--) {
            RUNS.due("promise 40, left", solver.undo(), left);
            RUNS.due("promise 48, left", solver.undoCount(), left);
        }
        RUNS.more("promise 40, the oldest are forgotten", solver,
            "undo() -> EMPTY; undoCount() -> 0; runCount(1) -> 1; runCount(2) -> 1; runCount(3) -> 1; runCount(4) -> 0",
            "addRun(4, 2, 1); undoCount() -> 1; undo() -> 0; runCount(4) -> 0; runCount(3) -> 1; undo() -> EMPTY");
        RUNS.run("no redo",
            "keepOnly(0, 0, 1); keepOnly(0, 1, 1); keepOnly(0, 2, 1); undo() -> 2; undo() -> 1; keepOnly(0, 3, 1)",
            "undoCount() -> 2; undo() -> 1; candidates(0, 3) -> 3; candidates(0, 1) -> 3; undo() -> 0",
            "candidates(0, 0) -> 3; undo() -> EMPTY");
    }

    private static void undoKeeps() {
        RUNS.run("promise 40, keeps",
            "addRun(1, 6, 1); solveLine(1) -> CONTRADICTION; setRule(1); appendText('/'); createTable(0, 1, 2)",
            "writeTable(0, 1, 9); formatClues() -> 11; save() -> 0; undo() -> 0; contradictionLine() -> 1",
            "contradictionDepth() -> 0; setRule(0) -> 1; appendText('/') -> 2; readTable(0, 1) -> 9",
            "formattedCharacter(10) -> '/'; restore() -> 0; runCount(1) -> 1");
    }

    private static void forgetting() {
        RUNS.run("reset, restore, drawPicture and clearCells forget",
            "keepOnly(0, 0, 1); reset(5, 5, 1); undoCount() -> 0; keepOnly(0, 0, 1); save(); restore(); undoCount() -> 0",
            "undo() -> EMPTY; keepOnly(0, 1, 1); drawPicture(1); undoCount() -> 0",
            "addRun(0, 1, 1); clearCells(); undoCount() -> 0; undo() -> EMPTY");
    }

    private static void snapshot() {
        RUNS.run("promise 42, no snapshot",
            "keepOnly(0, 0, 1); addRun(0, 6, 1); solveLine(0); restore() -> EMPTY; undoCount() -> 2",
            "contradictionLine() -> 0; reset(2, 2, 1); restore() -> EMPTY; undoCount() -> 0");
        RUNS.run("promises 41 and 42",
            "reset(2, 3, 3); addRun(0, 2, 3); keepOnly(1, 2, 2); eliminate(0, 0, 1); save() -> 1; undoCount() -> 3",
            "reset(8, 8, 1); addRun(9, 1, 1); keepOnly(7, 7, 1); appendText('x'); setRule(2); restore() -> 1",
            "rowCount() -> 2; columnCount() -> 3; colorCount() -> 3; runCount(0) -> 1; runLength(0, 0) -> 2",
            "runColor(0, 0) -> 3; runCount(4) -> 0; candidates(1, 2) -> 4; candidates(0, 0) -> 13; undoCount() -> 0",
            "setRule(0) -> 2; appendText('x') -> 2; keepOnly(0, 1, 0); addRun(0, 1, 1); restore() -> 1",
            "candidates(0, 1) -> 15; runCount(0) -> 1; keepOnly(0, 1, 0); save() -> 2; clearCells(); restore() -> 2",
            "candidates(0, 1) -> 1; restore() -> 2; undo() -> EMPTY");
    }
}
