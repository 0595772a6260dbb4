/** Promises 36 to 39: clues from text and clues as text. */
public final class TextTest {
    private static final Runs RUNS = new Runs();

    public static void main(String[] args) {
        appendText();
        parse();
        parseErrors();
        parseErrorKeepsClues();
        formatClues();
        formattedCharacter();
        parsedIsFormatted();
        RUNS.end();
    }

    private static void appendText() {
        RUNS.run("promise 36",
            "appendText(32) -> 1; appendText(126) -> 2; appendText(31) -> BAD_ARGUMENT; appendText(127) -> -2",
            "appendText(-1) -> -2; appendText(1000) -> -2; appendText(47) -> 3; undoCount() -> 0; parseClues() -> -100",
            "appendText(47) -> 1");
        NonogramSolver full = new NonogramSolver();
        for (int length = 1; length <= 120; length++) {
            RUNS.due("promise 36, length " + length, full.appendText('/'), length);
        }
        RUNS.more("promise 36, full", full,
            "appendText(47) -> FULL; appendText(31) -> BAD_ARGUMENT; appendText(126) -> -3; reset(1, 1, 1)",
            "appendText(47) -> -3; parseClues() -> -101; appendText(47) -> 1");
    }

    /** Makes a new grid, reads the text and compares the answer. */
    private static NonogramSolver parse(int rows, int columns, int colors, String text, int due) {
        NonogramSolver solver = new NonogramSolver();
        solver.reset(rows, columns, colors);
        Runs.append(solver, text);
        String name = rows + "x" + columns + " with " + colors + " colors: " + text;
        RUNS.due(name, solver.parseClues(), due);
        RUNS.due(name + ": edits", solver.undoCount(), due >= 0 ? 1 : 0);
        RUNS.due(name + ": the text is empty behind it", solver.appendText(' '), 1);
        return solver;
    }

    private static void parse() {
        NonogramSolver solver = parse(2, 3, 3, "1a8c/2b//3a1a/", 5);
        RUNS.more("promise 37", solver,
            "runCount(0) -> 2; runLength(0, 0) -> 1; runColor(0, 0) -> 1; runLength(0, 1) -> 8; runColor(0, 1) -> 3",
            "runCount(1) -> 1; runLength(1, 0) -> 2; runColor(1, 0) -> 2; runCount(2) -> 0; runCount(3) -> 2",
            "runLength(3, 0) -> 3; runCount(4) -> 0; candidates(0, 0) -> 15; undo() -> 0; runCount(0) -> 0");
        parse(1, 1, 1, "/", 0);
        parse(1, 1, 1, "1a/", 1);
        parse(1, 1, 1, "/1a", 1);
        parse(1, 1, 1, "1a1a1a1a1a1a1a1a/8a8a8a8a8a8a8a8a", 16);
        parse(8, 8, 1, "///////////////", 0);
        RUNS.more("promise 37, replaces", Runs.puzzle(1, 2, 2, "1a1b/2b/1a"),
            "appendText(47); appendText(47); keepOnly(0, 0, 1); parseClues() -> 0; runCount(0) -> 0; runCount(1) -> 0",
            "runCount(2) -> 0; candidates(0, 0) -> 2; undoCount() -> 3; undo() -> 2; runCount(0) -> 2",
            "runColor(0, 1) -> 2; candidates(0, 0) -> 2");
    }

    private static void parseErrors() {
        parse(1, 1, 1, "", -100);
        parse(1, 1, 1, "1", -101);
        parse(1, 1, 1, "1a", -102);
        parse(1, 1, 1, "1a/1", -104);
        parse(1, 1, 1, "a/", -100);
        parse(1, 1, 1, "11a/", -101);
        parse(1, 1, 1, "1/", -101);
        parse(1, 1, 1, "1aa/", -102);
        parse(1, 1, 1, "0a/", -100);
        parse(1, 1, 1, "9a/", -100);
        parse(1, 1, 1, "1b/", -101);
        parse(1, 1, 1, "1A/", -101);
        parse(1, 1, 1, "1`/", -101);
        parse(1, 1, 2, "1b/1c", -104);
        parse(1, 1, 3, "1c/1d", -104);
        parse(1, 1, 3, "1c/1 ", -104);
        parse(1, 1, 1, "/ ", -101);
        parse(1, 1, 1, "//", -101);
        parse(1, 1, 1, "/1a/", -103);
        parse(1, 1, 1, "/1a ", -103);
        parse(2, 2, 1, "//", -102);
        parse(2, 2, 1, "////", -103);
        parse(1, 1, 1, "1a1a1a1a1a1a1a1a1a/", -116);
        parse(1, 1, 1, "1a1a1a1a1a1a1a1ax/", -116);
        parse(1, 1, 1, "1a1a1a1a1a1a1a1a", -116);
        parse(8, 8, 1, "//////////////", -114);
    }

    private static void parseErrorKeepsClues() {
        RUNS.more("promise 37, an error", Runs.puzzle(1, 2, 1, "2a/1a/1a"),
            "appendText('/'); appendText('1'); appendText('a'); appendText('x'); parseClues() -> -103",
            "runLength(0, 0) -> 2; runCount(1) -> 1; undoCount() -> 1; parseClues() -> -100; undoCount() -> 1");
    }

    private static void formatClues() {
        RUNS.same("promise 38, empty clues", Runs.formatted(new NonogramSolver()), "/////////");
        NonogramSolver solver = new NonogramSolver();
        RUNS.more("promise 38", solver, "reset(2, 1, 3); addRun(0, 8, 3); addRun(0, 1, 1); addRun(2, 7, 2)",
            "formatClues() -> 8; undoCount() -> 3");
        RUNS.same("promise 38", Runs.formatted(solver), "8c1a//7b");
    }

    private static void formattedCharacter() {
        RUNS.run("promise 39",
            "formattedCharacter(0) -> NO_SUCH_INDEX; addRun(0, 3, 1); formattedCharacter(0) -> -1; formatClues() -> 11",
            "formattedCharacter(0) -> '3'; formattedCharacter(1) -> 'a'; formattedCharacter(2) -> '/'",
            "formattedCharacter(10) -> '/'; formattedCharacter(11) -> NO_SUCH_INDEX; formattedCharacter(-1) -> -1",
            "formattedCharacter(2147483647) -> -1; formattedCharacter(-2147483648) -> -1; clearClue(0)",
            "formattedCharacter(0) -> '3'; save(); undo(); undo(); formattedCharacter(0) -> '3'; restore()",
            "formattedCharacter(10) -> '/'; reset(1, 1, 1); formattedCharacter(10) -> '/'; formatClues() -> 1",
            "formattedCharacter(0) -> '/'; formattedCharacter(1) -> NO_SUCH_INDEX; formattedCharacter(10) -> -1");
    }

    private static void parsedIsFormatted() {
        String[] texts = {"1a8c/2b//3a1a/", "////", "8c8b8a1c1b1a2a3a////", "////4c4b", "5a/6b/7c/8a/1b"};
        for (String text : texts) {
            RUNS.same("promises 37 and 38", Runs.formatted(Runs.puzzle(2, 3, 3, text)), text);
        }
    }
}
