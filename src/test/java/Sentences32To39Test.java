/** Promises 32 to 39, sentence by sentence: pictures and texts. */
public final class Sentences32To39Test {
    private static final Sentences S = new Sentences();
    private static final String RICH = Sentences.RICH;
    /** A decided grid whose clues do not match it. */
    private static final String DECIDED = RICH
        + "4 x undo(); clearClue(2); keepOnly(0, 0, 1); keepOnly(0, 1, 2); keepOnly(1, 0, 1); keepOnly(1, 1, 0);"
        + "keepOnly(2, 0, 0); keepOnly(2, 1, 2); keepOnly(3, 0, 0); keepOnly(3, 1, 2); cells = 24/21/14/14;"
        + "clues = 1a/1a//1a/2a/1a; undoCount() -> 8;";
    /** 120 characters, which are clues of fifteen lines with 53 runs in all. */
    private static final String LONGEST_TEXT = "6 x text 1a1a1a1a1a1a1a1a/; text 1a1a1a1a1a////////;"
        + "appendText(47) -> FULL;";

    public static void main(String[] args) {
        firstMismatch();
        takeClues();
        drawPicture();
        clearCells();
        appendText();
        parseClues();
        parseErrors();
        formatClues();
        formattedCharacter();
        S.end();
    }

    private static void firstMismatch() {
        S.section("Promise 32: firstMismatch");
        S.says("Returns the first line whose decided colors do not match its clue.");
        S.answers(DECIDED, "firstMismatch() -> 0; clearClue(0); firstMismatch() -> 0; addRun(0, 1, 1); addRun(0, 1, 2)",
            "firstMismatch() -> 2; addRun(2, 1, 1); firstMismatch() -> 2; clearClue(2); addRun(2, 1, 2)",
            "firstMismatch() -> 3; clearClue(3); addRun(3, 1, 2); firstMismatch() -> 5; addRun(5, 2, 2)",
            "firstMismatch() -> 5; clearClue(5); addRun(5, 1, 2); addRun(5, 2, 2); firstMismatch() -> EMPTY");
        S.answers("reset(1, 3, 2); keepOnly(0, 0, 1); keepOnly(0, 1, 2); keepOnly(0, 2, 2); firstMismatch() -> 0",
            "addRun(0, 1, 2); addRun(0, 2, 1); addRun(1, 1, 1); addRun(2, 1, 2); addRun(3, 1, 2); firstMismatch() -> 0",
            "clearClue(0); addRun(0, 2, 1); addRun(0, 1, 2); firstMismatch() -> 0; clearClue(0); addRun(0, 1, 1)",
            "firstMismatch() -> 0; addRun(0, 2, 2); firstMismatch() -> EMPTY; addRun(0, 1, 1); firstMismatch() -> 0");
        S.answers("reset(2, 3, 2); drawPicture(1); firstMismatch() -> EMPTY; addRun(4, 1, 1); firstMismatch() -> 4",
            "addRun(1, 1, 1); firstMismatch() -> 1");
        S.keeps(DECIDED, "firstMismatch() -> 0");
        S.says("Returns the line, or EMPTY if all lines match;");
        S.answers("propagate(); firstMismatch() -> EMPTY; addRun(9, 1, 1); firstMismatch() -> 9; addRun(0, 1, 1)",
            "firstMismatch() -> 0; undo(); undo(); firstMismatch() -> EMPTY");
        S.keeps(DECIDED + "takeClues();", "firstMismatch() -> EMPTY");
        S.says("UNDECIDED if not all cells are decided (checked first).");
        S.refuses(RICH, "firstMismatch() -> UNDECIDED");
        S.answers(DECIDED, "undo(); firstMismatch() -> UNDECIDED; keepOnly(3, 1, 2); firstMismatch() -> 0");
        S.answers("reset(1, 2, 1); keepOnly(0, 0, 1); firstMismatch() -> UNDECIDED; addRun(0, 1, 1); addRun(1, 1, 1)",
            "firstMismatch() -> UNDECIDED; keepOnly(0, 1, 0); firstMismatch() -> EMPTY");
    }

    private static void takeClues() {
        S.section("Promise 33: takeClues");
        S.says("Replaces all clues by those that the decided grid matches.");
        S.answers(DECIDED, "takeClues() -> 8; clues = 1a1b/1a/1b/1b/2a/1b2b; cells = 24/21/14/14",
            "firstMismatch() -> EMPTY");
        S.changes("clues, edits", DECIDED, "takeClues() -> 8");
        S.answers("reset(1, 8, 2); keepOnly(0, 0, 1); keepOnly(0, 1, 2); keepOnly(0, 2, 1); keepOnly(0, 3, 2)",
            "keepOnly(0, 4, 1); keepOnly(0, 5, 2); keepOnly(0, 6, 1); keepOnly(0, 7, 2); takeClues() -> 16",
            "clues = 1a1b1a1b1a1b1a1b/1a/1b/1a/1b/1a/1b/1a/1b");
        S.answers("reset(1, 5, 3); keepOnly(0, 0, 3); keepOnly(0, 1, 3); keepOnly(0, 2, 0); keepOnly(0, 3, 3)",
            "keepOnly(0, 4, 0); takeClues() -> 5; clues = 2c1c/1c/1c//1c/");
        S.says("Returns the total number of runs, or UNDECIDED if not all cells are decided.");
        S.answers("propagate(); addRun(3, 2, 1); takeClues() -> 0; clues = /////////; takeClues() -> 0",
            "undoCount() -> 4");
        S.answers("reset(8, 8, 1); drawPicture(1); clearCells(); reset(8, 8, 1); 8 x keepOnly(0, 0, 1)",
            "takeClues() -> -6; propagate() -> CONTRADICTION; keepOnly(0, 0, 0); addRun(0, 8, 1); undoCount() -> 8");
        S.refuses(RICH, "takeClues() -> UNDECIDED");
        S.refuses(DECIDED + "undo();", "takeClues() -> UNDECIDED");
    }

    private static void drawPicture() {
        S.section("Promise 34: drawPicture");
        S.says("Makes a pseudo-random picture and replaces the grid by it: all cells are decided and all clues are "
            + "those that the picture matches.");
        S.answers(RICH, "drawPicture(1) -> 4; decidedCount() -> 8; firstMismatch() -> EMPTY; cells = 41/11/12/44",
            "clues = 1b//1a/2b/1b1b/1a1b");
        S.says("Cells get their colors in row order.");
        S.answers("reset(2, 3, 3); drawPicture(0) -> 3; cells = 111/248; reset(3, 2, 3); drawPicture(0) -> 3",
            "cells = 11/12/48; reset(1, 6, 3); drawPicture(0) -> 3; cells = 111248");
        S.says("The generator has an int state, which is the seed at first;");
        S.answers("reset(1, 3, 3); drawPicture(0); cells = 111; drawPicture(1); cells = 442; drawPicture(1)",
            "cells = 442; drawPicture(0); cells = 111");
        S.says("each draw replaces the state by `state * 1103515245 + 12345` in int arithmetic, and the color is "
            + "`(state >>> 16) % (K + 1)`.");
        S.answers("reset(1, 6, 1); drawPicture(0) -> 2; cells = 111212; drawPicture(1) -> 4; cells = 112222");
        S.answers("reset(1, 6, 2); drawPicture(0) -> 1; cells = 141111; drawPicture(1) -> 2; cells = 411112",
            "drawPicture(-2147483648) -> 5; cells = 412242; drawPicture(2147483647) -> 3; cells = 421114");
        S.answers("reset(8, 8, 2); drawPicture(2) -> 46");
        S.says("This is not an edit; all earlier states are forgotten.");
        S.changes("cells, clues, edits", RICH, "drawPicture(1) -> 4");
        S.answers(RICH, "undoCount() -> 4; drawPicture(1); undoCount() -> 0; undo() -> EMPTY; cells = 41/11/12/44");
        S.answers("drawPicture(1); keepOnly(0, 0, 0); undoCount() -> 1; drawPicture(1); undo() -> EMPTY");
        S.says("- `seed`: the seed");
        S.answers("reset(1, 6, 3); drawPicture(-1) -> 6; cells = 224424; drawPicture(2147483647) -> 6; cells = 224424",
            "drawPicture(-2147483648) -> 3; cells = 111248; drawPicture(65536) -> 5; cells = 222481");
        S.says("Returns the number of cells that are not white.");
        S.answers("reset(1, 6, 1); drawPicture(-1) -> 3; cells = 221121; reset(1, 1, 1); drawPicture(0) -> 0",
            "cells = 1; drawPicture(65536) -> 1; cells = 2; reset(8, 8, 1); drawPicture(2) -> 35; reset(8, 8, 3)",
            "drawPicture(2) -> 47");
    }

    private static void clearCells() {
        S.section("Promise 35: clearCells");
        S.says("Makes every color a candidate of every cell again.");
        S.answers(RICH, "clearCells(); cells = 77/77/77/77");
        S.answers("reset(1, 2, 3); drawPicture(0); clearCells() -> 2; cells = ff; reset(8, 8, 1); drawPicture(2)",
            "clearCells() -> 64; cells = 33333333/33333333/33333333/33333333/33333333/33333333/33333333/33333333");
        S.says("The clues stay.");
        S.changes("cells, edits", RICH, "clearCells() -> 1");
        S.says("This is not an edit; all earlier states are forgotten.");
        S.answers(RICH, "undoCount() -> 4; clearCells(); undoCount() -> 0; undo() -> EMPTY; clues = 1a//1a/1a/2a/1a3b");
        S.answers("clearCells() -> 0; undo() -> EMPTY; addRun(0, 1, 1); clearCells() -> 0; undo() -> EMPTY",
            "runCount(0) -> 1");
        S.says("Returns the number of cells that were decided.");
        S.answers(RICH, "clearCells() -> 1; clearCells() -> 0; drawPicture(1); clearCells() -> 8; decidedCount() -> 0");
    }

    private static void appendText() {
        S.section("Promise 36: appendText");
        S.says("Appends a character to the text.");
        S.changes("text", RICH, "appendText(47) -> 3");
        S.answers("reset(1, 1, 1); appendText('2'); appendText('a'); appendText('/'); appendText('3'); appendText('a')",
            "parseClues() -> 2; clues = 2a/3a");
        S.says("- `character`: the character, 32 to 126");
        S.answers("appendText(32) -> 1; appendText(126) -> 2; appendText(33) -> 3; appendText(125) -> 4");
        S.refuses(RICH, "appendText(31) -> BAD_ARGUMENT", "appendText(127) -> BAD_ARGUMENT", "appendText(0) -> -2",
            "appendText(-1) -> -2", "appendText(303) -> -2", "appendText(-2147483648) -> -2",
            "appendText(2147483647) -> -2");
        S.says("Returns the new length of the text;");
        S.answers("text 1a/ -> 3; parseClues() -> -103; appendText('1') -> 1; 118 x appendText(' ') -> 119");
        S.says("BAD_ARGUMENT if the character is out of range (checked first);");
        S.refuses(RICH + "118 x appendText('/') -> 120;", "appendText(31) -> BAD_ARGUMENT",
            "appendText(127) -> BAD_ARGUMENT");
        S.says("FULL if the text has 120 characters.");
        S.answers("119 x appendText('/') -> 119; appendText('/') -> 120; appendText('/') -> FULL",
            "appendText(' ') -> FULL; reset(1, 1, 1); appendText('/') -> FULL; parseClues() -> -101",
            "appendText('/') -> 1");
        S.refuses(RICH + "118 x appendText('/') -> 120;", "appendText(32) -> FULL", "appendText(126) -> FULL");
    }

    private static void parseClues() {
        S.section("Promise 37: parseClues");
        S.says("Parses the text as the clues of all lines and replaces the clues.");
        S.answers("reset(2, 3, 3); text 1a8c/2b//3a1a/; parseClues() -> 5; clues = 1a8c/2b//3a1a/; text //4c//",
            "parseClues() -> 1; clues = //4c//; text ////; parseClues() -> 0; clues = ////; undo() -> 2",
            "clues = //4c//; undo() -> 1; clues = 1a8c/2b//3a1a/; undo() -> 0; clues = ////");
        S.answers("reset(7, 8, 1); " + LONGEST_TEXT,
            "parseClues() -> 53; runCount(5) -> 8; runCount(6) -> 5; runCount(7) -> 0");
        S.says("The text is empty afterwards in every case, even after an error.");
        S.changes("text", RICH, "parseClues() -> -102");
        S.changes("clues, edits, text", RICH + "text /////;", "parseClues() -> 1");
        S.answers("reset(1, 1, 1); text 1a/; parseClues() -> 1; parseClues() -> -100; text 9; parseClues() -> -100",
            "text 2a/ -> 3; parseClues() -> 1; clues = 2a/; text 1; parseClues() -> -101; text / -> 1",
            "parseClues() -> 0");
        S.says("The text has R + C clues, separated by the character /.");
        S.answers("reset(1, 1, 1); text /; parseClues() -> 0; text //; parseClues() -> -101; parseClues() -> -100");
        S.answers("reset(8, 8, 1); 15 x appendText('/'); parseClues() -> 0; 16 x appendText('/'); parseClues() -> -115",
            "14 x appendText('/'); parseClues() -> -114; text ///////////////2a; parseClues() -> 1; runCount(15) -> 1");
        S.answers("reset(1, 2, 1); text 1a|1a|1a; parseClues() -> -102; text 1a//; parseClues() -> 1; clues = 1a//",
            "text /1a/; parseClues() -> 1; clues = /1a/; text //1a; parseClues() -> 1; clues = //1a");
        S.says("A clue is a sequence of zero to eight runs without separators.");
        S.answers("reset(1, 1, 1); text 1a1a1a1a1a1a1a1a/; parseClues() -> 8; text 1a1a1a1a1a1a1a1a1a/",
            "parseClues() -> -116; text /1a1a1a1a1a1a1a8a; parseClues() -> 8; text /1a1a1a1a1a1a1a1a8a",
            "parseClues() -> -117");
        S.answers("reset(1, 1, 1); text 1a 1a/; parseClues() -> -102; text 1a,1a/; parseClues() -> -102");
        S.says("A run is a digit 1 to 8, the length, followed by a letter, the color: a is color 1, b is color 2, c is "
            + "color 3;");
        S.answers("reset(1, 1, 3); text 1a2b3c4a/5b6c7a8b; parseClues() -> 8; clues = 1a2b3c4a/5b6c7a8b",
            "runLength(0, 0) -> 1; runColor(0, 0) -> 1; runColor(0, 1) -> 2; runColor(0, 2) -> 3",
            "runLength(1, 3) -> 8");
        S.answers("reset(1, 1, 3); text 0a/; parseClues() -> -100; text 9a/; parseClues() -> -100; text 1d/",
            "parseClues() -> -101; text 1`/; parseClues() -> -101; text 1A/; parseClues() -> -101; text a1/",
            "parseClues() -> -100; text :a/; parseClues() -> -100; text -a/; parseClues() -> -100; text 12a/",
            "parseClues() -> -101");
        S.says("only letters of existing colors are allowed.");
        S.answers("reset(1, 1, 1); text 1a/; parseClues() -> 1; text 1b/; parseClues() -> -101; text 1c/",
            "parseClues() -> -101");
        S.answers("reset(1, 1, 2); text 1b/; parseClues() -> 1; text 1c/; parseClues() -> -101; reset(1, 1, 3)",
            "text 1c/; parseClues() -> 1");
        S.says("The candidates do not change.");
        S.answers("reset(1, 2, 2); keepOnly(0, 0, 1); eliminate(0, 1, 2); text 2a/1b/1a; parseClues() -> 3",
            "cells = 23");
        S.says("Returns the total number of runs;");
        S.answers("reset(2, 1, 1); text 1a1a//1a; parseClues() -> 3; text //; parseClues() -> 0",
            "text 8a/8a8a8a/8a8a8a8a; parseClues() -> 8; reset(1, 1, 1); addRun(0, 1, 1); text /1a; parseClues() -> 1");
    }

    private static void parseErrors() {
        S.says("-100 - p if the text is not of this form, where p is the position, from 0, of the first character that "
            + "cannot continue such a text,");
        S.answers("reset(1, 1, 1); text x; parseClues() -> -100; text 1x; parseClues() -> -101; text 1ax",
            "parseClues() -> -102; text 1a/x; parseClues() -> -103; text 1a/1x; parseClues() -> -104; text 1a/1ax",
            "parseClues() -> -105; text 1a/1a/; parseClues() -> -105; text 1a/1ax/y; parseClues() -> -105",
            "text 1a/1a1; parseClues() -> -106; text 1/; parseClues() -> -101; text /1/; parseClues() -> -102");
        S.answers("120 x appendText(' '); parseClues() -> -100; text 1a; 118 x appendText(' '); parseClues() -> -102");
        // The last of the 120 characters is a slash too many for fourteen lines.
        S.answers("reset(7, 7, 1); " + LONGEST_TEXT + "parseClues() -> -219");
        S.changes("text", RICH + "text /////1a1;", "parseClues() -> -110");
        S.changes("text", RICH + "text //////;", "parseClues() -> -107");
        S.changes("text", RICH + "text /x;", "parseClues() -> -103");
        S.says("or the length of the text if it is only incomplete.");
        S.answers("parseClues() -> -100; reset(1, 1, 1); text 1; parseClues() -> -101; text 1a; parseClues() -> -102",
            "text 1a/; parseClues() -> 1; text 1a/1; parseClues() -> -104; text 1a/1a; parseClues() -> 2");
        S.answers("text ////////; parseClues() -> -108; text /////////; parseClues() -> 0; text ////////1a",
            "parseClues() -> -110");
        // All 120 characters are as they should be, and a sixteenth line would be due.
        S.answers("reset(8, 8, 1); " + LONGEST_TEXT + "parseClues() -> -220");
    }

    private static void formatClues() {
        S.section("Promise 38: formatClues");
        S.says("Formats all clues, in the form that parseClues reads, as the formatted text, which is empty at first.");
        S.answers("formatted =; formattedCharacter(0) -> NO_SUCH_INDEX; formatClues() -> 9; formatted = /////////");
        S.answers("reset(1, 2, 3); addRun(0, 1, 1); addRun(0, 8, 3); addRun(2, 7, 2); formatClues() -> 8",
            "formatted = 1a8c//7b; clearClue(0); formatted = 1a8c//7b; formatClues() -> 4; formatted = //7b",
            "formattedCharacter(4) -> -1");
        S.changes("formatted", RICH, "formatClues() -> 17");
        S.answers(RICH, "formatClues(); formatted = 1a//1a/1a/2a/1a3b; clearClue(0); text ///1a/2a/1a3b",
            "reset(4, 2, 2); formatted = 1a//1a/1a/2a/1a3b; parseClues() -> 5; clues = 1a///1a/2a/1a3b");
        S.says("Returns the length of the formatted text.");
        S.answers("reset(1, 1, 1); formatClues() -> 1; addRun(1, 1, 1); formatClues() -> 3; reset(8, 8, 1)",
            "formatClues() -> 15");
        longestText();
    }

    /** Sixteen clues of eight runs, and fifteen slashes. */
    private static void longestText() {
        StringBuilder run = new StringBuilder("reset(8, 8, 3)");
        StringBuilder text = new StringBuilder();
        for (int line = 0; line < 16; line++) {
            run.append(String.format("; 8 x addRun(%d, %d, %d)", line, 1 + line % 8, 1 + line % 3));
            text.append(line > 0 ? "/" : "").append(("" + (1 + line % 8) + "abc".charAt(line % 3)).repeat(8));
        }
        S.answers(run.toString(), "formatClues() -> 271; formattedCharacter(270) -> 'a'; formattedCharacter(271) -> -1",
            "formatted = " + text);
    }

    private static void formattedCharacter() {
        S.section("Promise 39: formattedCharacter");
        S.says("Returns a character of the formatted text as the latest call of formatClues made it.");
        S.answers("reset(1, 1, 3); addRun(0, 8, 3); formatClues() -> 3; addRun(1, 1, 1); formattedCharacter(0) -> '8'",
            "formattedCharacter(1) -> 'c'; formattedCharacter(2) -> '/'; formattedCharacter(3) -> -1",
            "formatClues() -> 5; formattedCharacter(3) -> '1'; formattedCharacter(4) -> 'a'",
            "formattedCharacter(5) -> -1; reset(1, 1, 1); formattedCharacter(4) -> 'a'; formatClues() -> 1",
            "formattedCharacter(0) -> 47; formattedCharacter(1) -> -1");
        S.keeps(RICH, "formattedCharacter(0) -> '1'");
        S.says("- `position`: the position");
        S.answers(RICH, "formattedCharacter(0) -> '1'; formattedCharacter(1) -> 'a'; formattedCharacter(16) -> 'a'");
        S.says("Returns the character, or NO_SUCH_INDEX if there is no such position.");
        S.answers(RICH, "formattedCharacter(15) -> 49; formattedCharacter(16) -> 97; formattedCharacter(14) -> 47");
        S.refuses(RICH, "formattedCharacter(17) -> NO_SUCH_INDEX", "formattedCharacter(-1) -> NO_SUCH_INDEX",
            "formattedCharacter(2147483647) -> -1", "formattedCharacter(-2147483648) -> -1");
        S.refuses("", "formattedCharacter(0) -> NO_SUCH_INDEX");
    }
}
