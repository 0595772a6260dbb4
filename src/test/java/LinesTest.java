/** Promises 18 to 20: the possible assignments of a line, and solving it. */
public final class LinesTest {
    private static final Runs RUNS = new Runs();

    public static void main(String[] args) {
        assignmentCount();
        assignmentColor();
        solveLine();
        solveLineContradiction();
        allAssignmentsOfLongLine();
        RUNS.end();
    }

    private static void assignmentCount() {
        RUNS.run("promise 18",
            "reset(2, 8, 2); assignmentCount(0) -> 1; addRun(0, 1, 1); assignmentCount(0) -> 8; addRun(0, 1, 1)",
            "assignmentCount(0) -> 21; addRun(0, 1, 2); assignmentCount(0) -> 35; eliminate(0, 0, 0)",
            "assignmentCount(0) -> 15; addRun(0, 8, 1); assignmentCount(0) -> 0; assignmentCount(1) -> 1");
        RUNS.run("promise 18, colors without a gap",
            "reset(1, 8, 2); addRun(0, 1, 1); addRun(0, 1, 2); addRun(0, 1, 1); addRun(0, 1, 2)",
            "assignmentCount(0) -> 70; addRun(0, 1, 1); addRun(0, 1, 2); addRun(0, 1, 1); addRun(0, 1, 2)",
            "assignmentCount(0) -> 1");
        RUNS.run("promise 18, the last run needs no gap",
            "reset(1, 3, 1); addRun(0, 1, 1); addRun(0, 1, 1); assignmentCount(0) -> 1; solveLine(0) -> 3",
            "assignmentCount(0) -> 1");
        RUNS.run("promise 18, candidates",
            "reset(1, 4, 1); addRun(0, 2, 1); assignmentCount(0) -> 3; eliminate(0, 1, 1); assignmentCount(0) -> 1",
            "eliminate(0, 3, 1); assignmentCount(0) -> 0; undo(); keepOnly(0, 3, 1); assignmentCount(0) -> 1",
            "keepOnly(0, 0, 1); assignmentCount(0) -> 0");
        RUNS.run("promise 18, the gap must be white",
            "reset(1, 4, 2); addRun(0, 1, 1); addRun(0, 1, 1); assignmentCount(0) -> 3; eliminate(0, 1, 0)",
            "assignmentCount(0) -> 1; eliminate(0, 2, 0); assignmentCount(0) -> 0");
        RUNS.run("promise 18, columns and wrong lines",
            "reset(3, 2, 1); addRun(4, 1, 1); keepOnly(1, 1, 1); assignmentCount(4) -> 1; assignmentCount(3) -> 1",
            "keepOnly(0, 0, 1); assignmentCount(3) -> 0; assignmentCount(5) -> NO_SUCH_INDEX",
            "assignmentCount(-1) -> -1; undoCount() -> 3");
    }

    private static void assignmentColor() {
        RUNS.run("promise 19",
            "reset(1, 4, 2); addRun(0, 1, 2); addRun(0, 1, 1); assignmentCount(0) -> 6",
            "assignmentColor(0, 0, 0) -> 0; assignmentColor(0, 0, 1) -> 0; assignmentColor(0, 0, 2) -> 2",
            "assignmentColor(0, 0, 3) -> 1; assignmentColor(0, 1, 1) -> 2; assignmentColor(0, 1, 2) -> 0",
            "assignmentColor(0, 2, 2) -> 1; assignmentColor(0, 2, 3) -> 0; assignmentColor(0, 3, 0) -> 2",
            "assignmentColor(0, 3, 1) -> 0; assignmentColor(0, 3, 2) -> 0; assignmentColor(0, 5, 1) -> 1",
            "assignmentColor(0, 6, 0) -> NO_SUCH_INDEX; assignmentColor(0, -1, 0) -> -1",
            "assignmentColor(0, 0, 4) -> -1; assignmentColor(0, 0, -1) -> -1; assignmentColor(5, 0, 0) -> -1",
            "assignmentColor(-1, 0, 0) -> -1; assignmentColor(1, 0, 0) -> 0; assignmentColor(1, 0, 1) -> -1");
        RUNS.run("promise 19, columns and candidates",
            "reset(4, 1, 1); addRun(4, 2, 1); keepOnly(1, 0, 1); assignmentCount(4) -> 2; assignmentColor(4, 0, 0) -> 0",
            "assignmentColor(4, 0, 1) -> 1; assignmentColor(4, 0, 2) -> 1; assignmentColor(4, 1, 0) -> 1",
            "assignmentColor(4, 1, 2) -> 0; assignmentColor(4, 2, 0) -> -1; assignmentColor(4, 0, 3) -> 0",
            "keepOnly(3, 0, 1); assignmentColor(4, 0, 0) -> -1; undoCount() -> 3");
    }

    private static void solveLine() {
        RUNS.run("promise 20",
            "reset(2, 5, 2); addRun(0, 2, 1); addRun(0, 1, 1); solveLine(0) -> 6; candidates(0, 0) -> 3",
            "candidates(0, 1) -> 2; candidates(0, 2) -> 3; candidates(0, 3) -> 3; candidates(0, 4) -> 3",
            "candidates(1, 1) -> 7; solveLine(0) -> 0; undoCount() -> 4; undo() -> 3; undo() -> 2",
            "candidates(0, 1) -> 7; solveLine(7) -> NO_SUCH_INDEX; solveLine(-1) -> -1; undoCount() -> 2");
        RUNS.run("promise 20, every candidate that is left is in an assignment",
            "reset(1, 5, 2); addRun(0, 1, 1); addRun(0, 2, 2); solveLine(0) -> 3; candidates(0, 0) -> 3",
            "candidates(0, 1) -> 7; candidates(0, 2) -> 7; candidates(0, 3) -> 5; candidates(0, 4) -> 5",
            "keepOnly(0, 2, 1); solveLine(0) -> 5; color(0, 3) -> 2; color(0, 4) -> 2; color(0, 0) -> 0");
        RUNS.run("promise 20, a column",
            "reset(3, 2, 1); addRun(4, 2, 1); solveLine(4) -> 1; candidates(1, 1) -> 2; candidates(0, 1) -> 3",
            "candidates(1, 0) -> 3; solveLine(3) -> 3; candidates(1, 0) -> 1; decidedCount() -> 4");
    }

    private static void solveLineContradiction() {
        RUNS.run("promise 20, contradiction",
            "reset(2, 2, 1); addRun(1, 2, 1); keepOnly(1, 1, 0); solveLine(1) -> CONTRADICTION; candidates(1, 0) -> 3",
            "undoCount() -> 2; contradictionLine() -> 1; contradictionDepth() -> 0; addRun(3, 3, 1)",
            "solveLine(3) -> CONTRADICTION; contradictionLine() -> 3; solveLine(0) -> 2; contradictionLine() -> 3");
    }

    /** Two runs of one cell in eight cells, in the order of the document, listed by two loops. */
    private static void allAssignmentsOfLongLine() {
        NonogramSolver solver = Runs.puzzle(1, 8, 1, "1a1a////////");
        int number = 0;
        for (int first = 5; first >= 0; first--) {
            for (int second = 7; second >= first + 2; second--) {
                for (int position = 0; position < 8; position++) {
                    int due = position == first || position == second ? 1 : 0;
                    RUNS.due("assignment " + number + " at " + position,
                        solver.assignmentColor(0, number, position), due);
                }
                number++;
            }
        }
        RUNS.due("their number", solver.assignmentCount(0), number);
    }
}
