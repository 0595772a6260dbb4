/** Promises 32 to 35: pictures and clues that are made from them. */
public final class PicturesTest {
    private static final Runs RUNS = new Runs();

    public static void main(String[] args) {
        firstMismatch();
        takeClues();
        takeLongClues();
        drawPicture();
        drawPictureBySeeds();
        clearCells();
        RUNS.end();
    }

    private static void firstMismatch() {
        RUNS.run("promise 32",
            "firstMismatch() -> UNDECIDED; addRun(0, 6, 1); firstMismatch() -> UNDECIDED; undo(); propagate()",
            "firstMismatch() -> EMPTY; addRun(7, 2, 1); firstMismatch() -> 7; addRun(3, 1, 1); firstMismatch() -> 3",
            "clearClue(3); firstMismatch() -> 7; addRun(8, 1, 1); firstMismatch() -> 7; clearClue(7)",
            "firstMismatch() -> 8; undoCount() -> 6; contradictionLine() -> EMPTY");
        RUNS.run("promise 32, lengths, colors and order",
            "reset(1, 3, 2); keepOnly(0, 0, 1); keepOnly(0, 1, 1); firstMismatch() -> UNDECIDED; keepOnly(0, 2, 2)",
            "addRun(1, 1, 1); addRun(2, 1, 1); addRun(3, 1, 2); firstMismatch() -> 0; addRun(0, 2, 1)",
            "firstMismatch() -> 0; addRun(0, 1, 2); firstMismatch() -> EMPTY; addRun(0, 1, 2); firstMismatch() -> 0",
            "clearClue(0); addRun(0, 1, 2); addRun(0, 2, 1); firstMismatch() -> 0");
    }

    private static void takeClues() {
        RUNS.run("promise 33",
            "reset(2, 4, 2); takeClues() -> UNDECIDED; undoCount() -> 0; addRun(5, 1, 1); propagate() -> CONTRADICTION",
            "keepOnly(0, 0, 1); keepOnly(0, 1, 1); keepOnly(0, 2, 2); keepOnly(0, 3, 1); keepOnly(1, 0, 0)",
            "keepOnly(1, 1, 1); keepOnly(1, 2, 0); takeClues() -> UNDECIDED; runCount(5) -> 1; keepOnly(1, 3, 1)",
            "takeClues() -> 9; firstMismatch() -> EMPTY; undoCount() -> 8; runCount(0) -> 3; runLength(0, 0) -> 2",
            "runColor(0, 0) -> 1; runLength(0, 1) -> 1; runColor(0, 1) -> 2; runColor(0, 2) -> 1; runCount(1) -> 2",
            "runCount(2) -> 1; runLength(3, 0) -> 2; runCount(3) -> 1; runLength(4, 0) -> 1; runColor(4, 0) -> 2",
            "runCount(4) -> 1; runCount(5) -> 1; runLength(5, 0) -> 2; decidedCount() -> 8; undo() -> 7",
            "runCount(0) -> 0; runCount(5) -> 1; runLength(5, 0) -> 1; decidedCount() -> 8");
        RUNS.run("promise 33, white",
            "reset(2, 2, 1); propagate(); addRun(0, 1, 1); takeClues() -> 0; runCount(0) -> 0; undoCount() -> 3");
    }

    /** The lines of a chequered grid of two colors have eight runs. */
    private static void takeLongClues() {
        NonogramSolver solver = new NonogramSolver();
        solver.reset(8, 8, 2);
        for (int row = 0; row < 8; row++) {
            for (int column = 0; column < 8; column++) {
                solver.keepOnly(row, column, 1 + (row + column) % 2);
            }
        }
        RUNS.more("promise 33, chequered", solver,
            "takeClues() -> 128; runCount(0) -> 8; runCount(15) -> 8; runLength(7, 7) -> 1; runColor(7, 7) -> 1",
            "runColor(7, 0) -> 2; firstMismatch() -> EMPTY; assignmentCount(0) -> 1; formatClues() -> 271",
            "formattedCharacter(270) -> 'a'; formattedCharacter(271) -> -1; clearCells() -> 64; propagate() -> 128",
            "color(7, 7) -> 1; color(7, 6) -> 2");
    }

    private static void drawPicture() {
        RUNS.run("promise 34",
            "reset(4, 4, 1); addRun(0, 8, 1); solveLine(0) -> CONTRADICTION; drawPicture(5) -> 10; decidedCount() -> 16",
            "undoCount() -> 0; undo() -> EMPTY; firstMismatch() -> EMPTY; contradictionLine() -> 0",
            "runLength(0, 0) -> 2; clearCells(); propagate(); drawPicture(5) -> 10; undo() -> EMPTY");
        RUNS.run("promise 34, a new picture replaces the old one",
            "reset(3, 3, 3); drawPicture(1); save(); drawPicture(1); formatClues(); drawPicture(-7); undoCount() -> 0");
    }

    private static void drawPictureBySeeds() {
        int[] seeds = {0, 1, -1, 5, 12345, Integer.MAX_VALUE, Integer.MIN_VALUE};
        for (int seed : seeds) {
            for (int colors = 1; colors <= 3; colors++) {
                comparePicture(seed, colors);
            }
        }
    }

    private static void comparePicture(int seed, int colors) {
        NonogramSolver solver = new NonogramSolver();
        solver.reset(3, 5, colors);
        int colored = solver.drawPicture(seed);
        long state = seed;
        int due = 0;
        for (int cell = 0; cell < 15; cell++) {
            state = (state * 1103515245L + 12345L) & 0xFFFFFFFFL;
            int color = (int) ((state >> 16) % (colors + 1));
            due += color != 0 ? 1 : 0;
            RUNS.due("promise 34, seed " + seed + ", cell " + cell, solver.color(cell / 5, cell % 5), color);
        }
        RUNS.due("promise 34, seed " + seed, colored, due);
        RUNS.due("promise 34, clues of seed " + seed, solver.firstMismatch(), NonogramSolver.EMPTY);
    }

    private static void clearCells() {
        RUNS.run("promise 35",
            "reset(2, 3, 2); addRun(0, 3, 2); keepOnly(1, 1, 1); eliminate(0, 0, 0); clearCells() -> 1",
            "candidates(1, 1) -> 7; candidates(0, 0) -> 7; runCount(0) -> 1; runLength(0, 0) -> 3; undoCount() -> 0",
            "undo() -> EMPTY; clearCells() -> 0; drawPicture(3); clearCells() -> 6; decidedCount() -> 0");
        RUNS.run("promise 35, keeps",
            "addRun(2, 7, 1); solveLine(2) -> CONTRADICTION; setRule(2); appendText('x'); clearCells() -> 0",
            "contradictionLine() -> 2; contradictionDepth() -> 0; setRule(1) -> 2; appendText('y') -> 2");
    }
}
