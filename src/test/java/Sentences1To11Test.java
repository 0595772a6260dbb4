/** Promises 1 to 11, sentence by sentence: a new object, the grid and the clues. */
public final class Sentences1To11Test {
    private static final Sentences S = new Sentences();
    private static final String RICH = Sentences.RICH;
    /** The first clue has eight runs, and the one of the last line seven. */
    private static final String LONG_CLUES = RICH
        + "text 1a1a1a1a1a1a1a//1a/1a/2a/1a3b1a1a1a1a1a; parseClues() -> 18; undoCount() -> 5; text 1a;";

    public static void main(String[] args) {
        newObject();
        reset();
        rowCount();
        columnCount();
        colorCount();
        addRun();
        clearClue();
        runCount();
        runLength();
        runColor();
        minimumLength();
        S.end();
    }

    private static void newObject() {
        S.section("Promise 1: A new object");
        S.says("Creates a solver with 5 rows, 5 columns and 1 color besides white.");
        S.answers("rowCount() -> 5; columnCount() -> 5; colorCount() -> 1; cells = 33333/33333/33333/33333/33333");
        S.answers("candidates(4, 4) -> 3; candidates(5, 4) -> NO_SUCH_INDEX; candidates(4, 5) -> NO_SUCH_INDEX");
        S.answers("runCount(9) -> 0; runCount(10) -> NO_SUCH_INDEX; keepOnly(0, 0, 2) -> BAD_ARGUMENT");
    }

    private static void reset() {
        S.section("Promise 2: reset");
        S.says("Makes a new grid with empty clues and all candidates");
        S.answers(LONG_CLUES, "reset(4, 2, 2) -> 6; cells = 77/77/77/77; clues = /////");
        S.answers(LONG_CLUES, "reset(2, 3, 3) -> 5; cells = fff/fff; clues = ////");
        S.answers("reset(8, 8, 3); drawPicture(1); reset(8, 8, 1) -> 16; clues = ///////////////",
            "cells = 33333333/33333333/33333333/33333333/33333333/33333333/33333333/33333333");
        S.says("and forgets all earlier states.");
        S.answers(RICH, "undoCount() -> 4; reset(4, 2, 2); undoCount() -> 0; undo() -> EMPTY; cells = 77/77/77/77");
        S.answers("8 x addRun(0, 1, 1); reset(5, 5, 1); undo() -> EMPTY; addRun(0, 1, 1) -> 1; undo() -> 0",
            "undo() -> -8; runCount(0) -> 0");
        S.says("The selection rule, the text, the tables and the snapshot stay.");
        S.changes("size, clues, cells, edits, contradiction", RICH, "reset(3, 3, 1) -> 6");
        S.changes("clues, cells, edits, contradiction", RICH, "reset(4, 2, 2) -> 6");
        S.changes("size, clues, cells, edits, contradiction",
            RICH + "createTable(2, 2, 3); writeTable(2, 1, 1); setRule(1);", "reset(8, 8, 3) -> 16");
        S.says("- `rows`: the number of rows R, 1 to 8");
        S.answers("reset(1, 3, 2) -> 4; rowCount() -> 1; reset(8, 3, 2) -> 11; rowCount() -> 8");
        S.refuses(RICH, "reset(0, 3, 2) -> BAD_ARGUMENT", "reset(9, 3, 2) -> BAD_ARGUMENT", "reset(-1, 3, 2) -> -2",
            "reset(-2147483648, 3, 2) -> -2", "reset(2147483647, 3, 2) -> -2");
        S.says("- `columns`: the number of columns C, 1 to 8");
        S.answers("reset(3, 1, 2) -> 4; columnCount() -> 1; reset(3, 8, 2) -> 11; columnCount() -> 8");
        S.refuses(RICH, "reset(3, 0, 2) -> BAD_ARGUMENT", "reset(3, 9, 2) -> BAD_ARGUMENT", "reset(3, -1, 2) -> -2",
            "reset(3, -2147483648, 2) -> -2", "reset(3, 2147483647, 2) -> -2");
        S.says("- `colors`: the number of colors K besides white, 1 to 3");
        S.answers("reset(3, 4, 1) -> 7; colorCount() -> 1; candidates(0, 0) -> 3; reset(3, 4, 3) -> 7",
            "colorCount() -> 3; candidates(2, 3) -> 15; reset(3, 4, 2); colorCount() -> 2; candidates(2, 3) -> 7");
        S.refuses(RICH, "reset(3, 4, 0) -> BAD_ARGUMENT", "reset(3, 4, 4) -> BAD_ARGUMENT", "reset(3, 4, -1) -> -2",
            "reset(3, 4, -2147483648) -> -2", "reset(3, 4, 2147483647) -> -2");
        S.says("Returns the number of lines, or BAD_ARGUMENT if an argument is out of range.");
        S.answers("reset(1, 1, 1) -> 2; reset(8, 8, 3) -> 16; reset(1, 8, 2) -> 9; reset(8, 1, 2) -> 9",
            "reset(2, 5, 1) -> 7");
        S.refuses(RICH, "reset(0, 0, 0) -> BAD_ARGUMENT", "reset(9, 9, 4) -> BAD_ARGUMENT", "reset(9, 1, 4) -> -2",
            "reset(0, 9, 1) -> -2");
    }

    private static void rowCount() {
        S.section("Promise 3: rowCount");
        S.says("Returns the number of rows.");
        S.answers("rowCount() -> 5; reset(1, 8, 2); rowCount() -> 1; reset(8, 1, 2); rowCount() -> 8");
        S.answers("reset(2, 3, 1); save(); reset(4, 5, 1); rowCount() -> 4; restore(); rowCount() -> 2");
        S.keeps(RICH, "rowCount() -> 4");
    }

    private static void columnCount() {
        S.section("Promise 4: columnCount");
        S.says("Returns the number of columns.");
        S.answers("columnCount() -> 5; reset(1, 8, 2); columnCount() -> 8; reset(8, 1, 2); columnCount() -> 1");
        S.answers("reset(2, 3, 1); save(); reset(4, 5, 1); columnCount() -> 5; restore(); columnCount() -> 3");
        S.keeps(RICH, "columnCount() -> 2");
    }

    private static void colorCount() {
        S.section("Promise 5: colorCount");
        S.says("Returns the number of colors besides white.");
        S.answers("colorCount() -> 1; reset(1, 8, 2); colorCount() -> 2; reset(8, 1, 3); colorCount() -> 3");
        S.says("Returns the number of colors K.");
        S.answers("reset(2, 3, 3); save(); reset(4, 5, 1); colorCount() -> 1; restore(); colorCount() -> 3");
        S.keeps(RICH, "colorCount() -> 2");
    }

    private static void addRun() {
        S.section("Promise 6: addRun");
        S.says("Appends a run to the clue of a line.");
        S.answers("reset(2, 3, 3); addRun(0, 2, 3); addRun(4, 7, 1); addRun(0, 5, 1); addRun(2, 1, 2); addRun(0, 1, 2)",
            "clues = 2c5a1b//1b//7a");
        S.says("The candidates do not change.");
        S.changes("clues, edits", RICH, "addRun(1, 2, 1) -> 1");
        S.answers("reset(1, 2, 1); keepOnly(0, 0, 1); addRun(0, 2, 1); addRun(2, 1, 1); cells = 23");
        S.says("- `line`: the line");
        S.answers("reset(4, 2, 2); addRun(0, 1, 1) -> 1; addRun(5, 1, 1) -> 1; clues = 1a/////1a");
        S.refuses(RICH, "addRun(-1, 1, 1) -> NO_SUCH_INDEX", "addRun(6, 1, 1) -> NO_SUCH_INDEX");
        S.answers("reset(8, 8, 1); addRun(15, 1, 1) -> 1");
        S.refuses("reset(8, 8, 1);", "addRun(16, 1, 1) -> NO_SUCH_INDEX");
        S.says("- `length`: the length of the run, 1 to 8");
        S.answers("reset(4, 2, 2); addRun(0, 1, 1) -> 1; addRun(0, 8, 1) -> 2; runLength(0, 0) -> 1",
            "runLength(0, 1) -> 8");
        S.refuses(RICH, "addRun(0, 0, 1) -> BAD_ARGUMENT", "addRun(0, 9, 1) -> BAD_ARGUMENT", "addRun(0, -1, 1) -> -2",
            "addRun(0, -2147483648, 1) -> -2", "addRun(0, 2147483647, 1) -> -2");
        S.says("- `color`: the color of the run, 1 to K");
        S.answers("addRun(0, 1, 1) -> 1; reset(1, 1, 2); addRun(0, 1, 2) -> 1; reset(1, 1, 3); addRun(0, 1, 3) -> 1",
            "addRun(0, 1, 1) -> 2; clues = 1c1a/");
        S.refuses("", "addRun(0, 1, 0) -> BAD_ARGUMENT", "addRun(0, 1, 2) -> BAD_ARGUMENT");
        S.refuses(RICH, "addRun(0, 1, 0) -> BAD_ARGUMENT", "addRun(0, 1, 3) -> BAD_ARGUMENT", "addRun(0, 1, -1) -> -2",
            "addRun(0, 1, -2147483648) -> -2", "addRun(0, 1, 2147483647) -> -2");
        S.refuses("reset(1, 1, 3);", "addRun(0, 1, 0) -> BAD_ARGUMENT", "addRun(0, 1, 4) -> BAD_ARGUMENT");
        S.says("Returns the new number of runs;");
        S.answers("reset(4, 2, 2); addRun(3, 1, 1) -> 1; addRun(3, 2, 2) -> 2; addRun(2, 2, 2) -> 1",
            "addRun(3, 1, 1) -> 3");
        S.says("NO_SUCH_INDEX if there is no such line (checked first);");
        S.refuses(RICH, "addRun(6, 0, 1) -> NO_SUCH_INDEX", "addRun(6, 1, 0) -> NO_SUCH_INDEX",
            "addRun(-1, 9, 3) -> -1", "addRun(2147483647, 9, 9) -> NO_SUCH_INDEX",
            "addRun(-2147483648, -1, -1) -> NO_SUCH_INDEX");
        S.says("BAD_ARGUMENT if the length or the color is out of range (checked second);");
        S.refuses(LONG_CLUES, "addRun(0, 0, 1) -> BAD_ARGUMENT", "addRun(0, 9, 1) -> BAD_ARGUMENT",
            "addRun(0, 1, 0) -> BAD_ARGUMENT", "addRun(0, 1, 3) -> BAD_ARGUMENT", "addRun(0, 9, 3) -> BAD_ARGUMENT");
        S.says("FULL if the clue has 8 runs.");
        S.answers(LONG_CLUES, "addRun(5, 2, 2) -> 8; addRun(5, 2, 2) -> FULL");
        S.refuses(LONG_CLUES, "addRun(0, 1, 1) -> FULL", "addRun(0, 8, 2) -> FULL");
        S.answers(LONG_CLUES, "addRun(0, 1, 1) -> FULL; clearClue(0) -> 8; addRun(0, 1, 1) -> 1");
    }

    private static void clearClue() {
        S.section("Promise 7: clearClue");
        S.says("Makes the clue of a line empty.");
        S.answers(RICH, "clearClue(5); clues = 1a//1a/1a/2a/; clearClue(0); clues = //1a/1a/2a/",
            "minimumLength(5) -> 0");
        S.answers(RICH, "clearClue(5); addRun(5, 2, 2) -> 1; clues = 1a//1a/1a/2a/2b");
        S.says("The candidates do not change.");
        S.changes("clues, edits", RICH, "clearClue(5) -> 2");
        S.says("- `line`: the line");
        S.answers(RICH, "clearClue(0) -> 1; clearClue(5) -> 2");
        S.refuses(RICH, "clearClue(-1) -> NO_SUCH_INDEX", "clearClue(6) -> NO_SUCH_INDEX");
        S.answers("reset(8, 8, 1); clearClue(15) -> 0");
        S.refuses("reset(8, 8, 1);", "clearClue(16) -> NO_SUCH_INDEX");
        S.says("Returns the previous number of runs, or NO_SUCH_INDEX if there is no such line.");
        S.answers(LONG_CLUES, "clearClue(0) -> 8; clearClue(0) -> 0; clearClue(5) -> 7; clearClue(4) -> 1",
            "clearClue(1) -> 0");
        S.changes("edits", RICH, "clearClue(1) -> 0");
        S.refuses(LONG_CLUES, "clearClue(7) -> NO_SUCH_INDEX", "clearClue(2147483647) -> NO_SUCH_INDEX",
            "clearClue(-2147483648) -> NO_SUCH_INDEX");
    }

    private static void runCount() {
        S.section("Promise 8: runCount");
        S.says("Returns the number of runs of a clue.");
        S.answers(LONG_CLUES, "runCount(0) -> 8; runCount(1) -> 0; runCount(4) -> 1; runCount(5) -> 7");
        S.keeps(RICH, "runCount(5) -> 2");
        S.says("- `line`: the line");
        S.answers(RICH, "runCount(0) -> 1; runCount(5) -> 2");
        S.answers("reset(8, 8, 1); addRun(15, 1, 1); runCount(15) -> 1; runCount(16) -> NO_SUCH_INDEX");
        S.says("Returns the number of runs, or NO_SUCH_INDEX if there is no such line.");
        S.refuses(RICH, "runCount(-1) -> NO_SUCH_INDEX", "runCount(6) -> NO_SUCH_INDEX", "runCount(2147483647) -> -1",
            "runCount(-2147483648) -> -1");
    }

    private static void runLength() {
        S.section("Promise 9: runLength");
        S.says("Returns the length of a run.");
        S.answers("reset(1, 1, 1); 7 x addRun(0, 1, 1); addRun(0, 8, 1); addRun(1, 5, 1); runLength(0, 6) -> 1",
            "runLength(0, 7) -> 8; runLength(1, 0) -> 5");
        S.keeps(RICH, "runLength(5, 1) -> 3");
        S.says("- `line`: the line");
        S.answers(RICH, "runLength(0, 0) -> 1; runLength(5, 0) -> 1");
        S.refuses(RICH, "runLength(-1, 0) -> NO_SUCH_INDEX", "runLength(6, 0) -> NO_SUCH_INDEX");
        S.says("- `run`: the number of the run");
        S.answers(LONG_CLUES, "runLength(5, 0) -> 1; runLength(5, 1) -> 3; runLength(5, 6) -> 1; runLength(0, 7) -> 1");
        S.refuses(LONG_CLUES, "runLength(5, 7) -> NO_SUCH_INDEX", "runLength(0, 8) -> NO_SUCH_INDEX");
        S.says("Returns the length, or NO_SUCH_INDEX if there is no such line or run.");
        S.refuses(RICH, "runLength(5, 2) -> NO_SUCH_INDEX", "runLength(5, -1) -> -1", "runLength(1, 0) -> -1",
            "runLength(5, 2147483647) -> -1", "runLength(5, -2147483648) -> -1", "runLength(2147483647, 0) -> -1",
            "runLength(-2147483648, 0) -> -1", "runLength(6, 2) -> -1");
        S.answers(RICH, "clearClue(5); runLength(5, 0) -> NO_SUCH_INDEX; undo(); runLength(5, 0) -> 1");
    }

    private static void runColor() {
        S.section("Promise 10: runColor");
        S.says("Returns the color of a run.");
        S.answers("reset(1, 1, 3); 7 x addRun(0, 1, 1); addRun(0, 1, 3); addRun(1, 5, 2); runColor(0, 6) -> 1",
            "runColor(0, 7) -> 3; runColor(1, 0) -> 2");
        S.keeps(RICH, "runColor(5, 1) -> 2");
        S.says("- `line`: the line");
        S.answers(RICH, "runColor(0, 0) -> 1; runColor(5, 0) -> 1");
        S.refuses(RICH, "runColor(-1, 0) -> NO_SUCH_INDEX", "runColor(6, 0) -> NO_SUCH_INDEX");
        S.says("- `run`: the number of the run");
        S.answers(LONG_CLUES, "runColor(5, 0) -> 1; runColor(5, 1) -> 2; runColor(5, 6) -> 1; runColor(0, 7) -> 1");
        S.refuses(LONG_CLUES, "runColor(5, 7) -> NO_SUCH_INDEX", "runColor(0, 8) -> NO_SUCH_INDEX");
        S.says("Returns the color, or NO_SUCH_INDEX if there is no such line or run.");
        S.refuses(RICH, "runColor(5, 2) -> NO_SUCH_INDEX", "runColor(5, -1) -> -1", "runColor(1, 0) -> -1",
            "runColor(5, 2147483647) -> -1", "runColor(5, -2147483648) -> -1", "runColor(2147483647, 0) -> -1",
            "runColor(-2147483648, 0) -> -1", "runColor(6, 2) -> -1");
        S.answers(RICH, "clearClue(5); runColor(5, 0) -> NO_SUCH_INDEX; undo(); runColor(5, 1) -> 2");
    }

    private static void minimumLength() {
        S.section("Promise 11: minimumLength");
        S.says("Returns the minimum number of cells that a clue needs: the sum of the lengths of its runs plus the "
            + "number of pairs of adjacent runs of the same color.");
        S.answers("reset(1, 3, 3); minimumLength(0) -> 0; addRun(0, 3, 1); minimumLength(0) -> 3; addRun(0, 2, 1)",
            "minimumLength(0) -> 6; addRun(0, 1, 2); minimumLength(0) -> 7; addRun(0, 1, 1); minimumLength(0) -> 8",
            "addRun(0, 1, 3); addRun(0, 1, 3); addRun(0, 1, 3); minimumLength(0) -> 13; minimumLength(1) -> 0");
        S.keeps(RICH, "minimumLength(5) -> 4");
        // Neither a run that is gone nor the first run of the next line is adjacent to the last run.
        S.answers("reset(1, 2, 1); addRun(0, 2, 1); addRun(0, 1, 1); minimumLength(0) -> 4; undo()",
            "minimumLength(0) -> 2; addRun(0, 1, 1); clearClue(0); addRun(0, 3, 1); minimumLength(0) -> 3");
        S.answers("reset(8, 8, 1); addRun(1, 1, 1); 8 x addRun(0, 1, 1); minimumLength(0) -> 15; minimumLength(1) -> 1",
            "8 x addRun(15, 1, 1); minimumLength(15) -> 15; undo(); minimumLength(15) -> 13; minimumLength(14) -> 0");
        S.says("- `line`: the line");
        S.answers(RICH, "minimumLength(0) -> 1; minimumLength(1) -> 0; minimumLength(4) -> 2; minimumLength(5) -> 4");
        S.says("Returns the number of cells, which may be greater than the length of the line;");
        S.answers("reset(1, 1, 2); addRun(0, 1, 1); minimumLength(0) -> 1; addRun(0, 1, 2); minimumLength(0) -> 2",
            "clearClue(0); 8 x addRun(0, 8, 2); minimumLength(0) -> 71; 8 x addRun(1, 1, 1); minimumLength(1) -> 15");
        S.says("NO_SUCH_INDEX if there is no such line.");
        S.refuses(RICH, "minimumLength(-1) -> NO_SUCH_INDEX", "minimumLength(6) -> NO_SUCH_INDEX",
            "minimumLength(2147483647) -> NO_SUCH_INDEX", "minimumLength(-2147483648) -> NO_SUCH_INDEX");
        S.answers("reset(8, 8, 1); minimumLength(15) -> 0; minimumLength(16) -> NO_SUCH_INDEX");
    }
}
