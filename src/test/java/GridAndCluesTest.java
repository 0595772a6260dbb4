/** Promises 1 to 11: the grid and the clues. */
public final class GridAndCluesTest {
    private static final Runs RUNS = new Runs();

    public static void main(String[] args) {
        newObject();
        reset();
        resetForgetsAndKeeps();
        sizes();
        addRun();
        clearClue();
        readingClues();
        minimumLength();
        RUNS.end();
    }

    private static void newObject() {
        RUNS.run("promise 1",
            "rowCount() -> 5; columnCount() -> 5; colorCount() -> 1; decidedCount() -> 0; candidates(0, 0) -> 3",
            "candidates(4, 4) -> 3; candidates(4, 5) -> NO_SUCH_INDEX; candidates(5, 4) -> NO_SUCH_INDEX",
            "runCount(0) -> 0; runCount(9) -> 0; runCount(10) -> NO_SUCH_INDEX; undoCount() -> 0; undo() -> EMPTY",
            "restore() -> EMPTY; contradictionLine() -> EMPTY; contradictionDepth() -> EMPTY",
            "formattedCharacter(0) -> NO_SUCH_INDEX; readTable(0, 0) -> MISSING_TABLE",
            "readTable(1, 0) -> MISSING_TABLE; readTable(2, 0) -> MISSING_TABLE; setRule(0) -> 0; parseClues() -> -100");
    }

    private static void reset() {
        RUNS.run("promise 2, ordinary",
            "reset(1, 1, 1) -> 2; rowCount() -> 1; candidates(0, 0) -> 3; candidates(0, 1) -> -1",
            "reset(8, 8, 3) -> 16; candidates(7, 7) -> 15; runCount(15) -> 0; runCount(16) -> -1",
            "reset(3, 7, 2) -> 10; rowCount() -> 3; columnCount() -> 7; colorCount() -> 2; candidates(2, 6) -> 7");
        String unchanged = "rowCount() -> 2; columnCount() -> 3; colorCount() -> 2; candidates(1, 1) -> 2;"
            + "runCount(0) -> 1; undoCount() -> 2; contradictionLine() -> 0";
        NonogramSolver solver = RUNS.run("promise 2, wrong",
            "reset(2, 3, 2); addRun(0, 8, 1); keepOnly(1, 1, 1); solveLine(0) -> CONTRADICTION");
        String[] wrong = {"0, 3, 2", "9, 3, 2", "-1, 3, 2", "2, 0, 2", "2, 9, 2", "2, -3, 2", "2, 3, 0", "2, 3, 4",
            "2, 3, -1", "-2147483648, 3, 2", "2147483647, 2147483647, 2147483647"};
        for (String arguments : wrong) {
            RUNS.more("promise 2, wrong " + arguments, solver, "reset(" + arguments + ") -> BAD_ARGUMENT", unchanged);
        }
    }

    private static void resetForgetsAndKeeps() {
        RUNS.run("promise 2, forgets",
            "addRun(0, 3, 1); addRun(9, 2, 1); keepOnly(0, 0, 0); keepOnly(4, 4, 1); solveLine(5)",
            "reset(5, 5, 1) -> 10; runCount(0) -> 0; runCount(9) -> 0; candidates(0, 0) -> 3; candidates(4, 4) -> 3",
            "undoCount() -> 0; undo() -> EMPTY");
        RUNS.run("promise 2, forgets the contradiction",
            "addRun(0, 6, 1); solveLine(0) -> CONTRADICTION; contradictionLine() -> 0; contradictionDepth() -> 0",
            "reset(5, 5, 1); contradictionLine() -> EMPTY; contradictionDepth() -> EMPTY");
        RUNS.run("promise 2, keeps",
            "setRule(2); appendText(47); createTable(1, 1, 3); writeTable(1, 2, 77); keepOnly(0, 0, 1); save() -> 1",
            "formatClues() -> 9; reset(1, 1, 1) -> 2; setRule(0) -> 2; readTable(1, 2) -> 77",
            "formattedCharacter(8) -> 47; formattedCharacter(9) -> -1; parseClues() -> 0; restore() -> 1",
            "rowCount() -> 5; candidates(0, 0) -> 2");
    }

    private static void sizes() {
        RUNS.run("promises 3, 4 and 5",
            "reset(2, 7, 3); rowCount() -> 2; columnCount() -> 7; colorCount() -> 3",
            "save(); reset(7, 2, 1); rowCount() -> 7; columnCount() -> 2; colorCount() -> 1",
            "restore(); rowCount() -> 2; columnCount() -> 7; colorCount() -> 3");
    }

    private static void addRun() {
        RUNS.run("promise 6",
            "reset(2, 3, 2); addRun(0, 1, 1) -> 1; addRun(0, 8, 2) -> 2; addRun(4, 3, 1) -> 1; runCount(0) -> 2",
            "runCount(1) -> 0; runCount(4) -> 1; runLength(0, 1) -> 8; runColor(0, 1) -> 2; candidates(0, 0) -> 7",
            "undoCount() -> 3");
        RUNS.run("promise 6, wrong",
            "reset(2, 3, 2); addRun(-1, 1, 1) -> -1; addRun(5, 1, 1) -> -1; addRun(5, 0, 0) -> NO_SUCH_INDEX",
            "addRun(0, 0, 1) -> BAD_ARGUMENT; addRun(0, 9, 1) -> -2; addRun(0, -1, 1) -> -2; addRun(0, 1, 0) -> -2",
            "addRun(0, 1, 3) -> -2; addRun(0, 1, -1) -> -2; addRun(2147483647, 1, 1) -> -1; undoCount() -> 0",
            "runCount(0) -> 0");
        RUNS.run("promise 6, full",
            "reset(1, 8, 1); addRun(0, 1, 1) -> 1; addRun(0, 1, 1) -> 2; addRun(0, 1, 1) -> 3; addRun(0, 1, 1) -> 4",
            "addRun(0, 1, 1) -> 5; addRun(0, 1, 1) -> 6; addRun(0, 1, 1) -> 7; addRun(0, 8, 1) -> 8",
            "addRun(0, 1, 1) -> FULL; addRun(0, 9, 1) -> BAD_ARGUMENT; runCount(0) -> 8; runLength(0, 7) -> 8",
            "runCount(1) -> 0; addRun(1, 1, 1) -> 1; undo() -> 7; runCount(0) -> 8; undo() -> 6; runCount(0) -> 7");
    }

    private static void clearClue() {
        RUNS.run("promise 7",
            "reset(2, 2, 1); addRun(1, 1, 1); addRun(1, 1, 1); addRun(2, 2, 1); solveLine(2) -> 2; clearClue(1) -> 2",
            "runCount(1) -> 0; runCount(2) -> 1; clearClue(1) -> 0; undoCount() -> 6; candidates(0, 0) -> 2",
            "clearClue(4) -> NO_SUCH_INDEX; clearClue(-1) -> -1; undoCount() -> 6; undo() -> 5; undo() -> 4",
            "runCount(1) -> 2; runLength(1, 1) -> 1");
    }

    private static void readingClues() {
        RUNS.run("promises 8, 9 and 10",
            "reset(1, 3, 3); addRun(0, 2, 3); addRun(0, 5, 1); addRun(3, 7, 2); runCount(0) -> 2; runCount(3) -> 1",
            "runCount(1) -> 0; runLength(0, 0) -> 2; runLength(0, 1) -> 5; runLength(3, 0) -> 7; runColor(0, 0) -> 3",
            "runColor(0, 1) -> 1; runColor(3, 0) -> 2");
        RUNS.run("promises 8, 9 and 10, wrong",
            "reset(1, 3, 3); addRun(0, 2, 3); runCount(4) -> -1; runCount(-1) -> -1; runLength(0, 1) -> -1",
            "runLength(0, -1) -> -1; runLength(4, 0) -> -1; runLength(-1, 0) -> -1; runLength(1, 0) -> -1",
            "runColor(0, 1) -> -1; runColor(0, -1) -> -1; runColor(4, 0) -> -1; runColor(-1, 0) -> -1",
            "runColor(1, 0) -> -1; runLength(0, 2147483647) -> -1; runColor(0, -2147483648) -> -1",
            "clearClue(0); runLength(0, 0) -> -1; runColor(0, 0) -> -1");
    }

    private static void minimumLength() {
        RUNS.run("promise 11",
            "reset(2, 4, 2); minimumLength(0) -> 0; addRun(0, 3, 1); minimumLength(0) -> 3; addRun(0, 2, 1)",
            "minimumLength(0) -> 6; addRun(0, 4, 2); minimumLength(0) -> 10; addRun(0, 1, 2); minimumLength(0) -> 12",
            "addRun(0, 1, 1); minimumLength(0) -> 13; minimumLength(1) -> 0; minimumLength(6) -> NO_SUCH_INDEX",
            "minimumLength(-1) -> -1; addRun(5, 8, 1); addRun(5, 8, 1); minimumLength(5) -> 17",
            "clearClue(0); minimumLength(0) -> 0; addRun(0, 1, 2); minimumLength(0) -> 1");
    }
}
