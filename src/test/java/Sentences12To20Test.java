/** Promises 12 to 20, sentence by sentence: the candidates and the lines. */
public final class Sentences12To20Test {
    private static final Sentences S = new Sentences();
    private static final String RICH = Sentences.RICH;
    /** Of the four rows and two columns, the first row and the first column have no undecided cell. */
    private static final String HALF_DECIDED = RICH
        + "keepOnly(0, 0, 1); keepOnly(0, 1, 0); keepOnly(1, 0, 2); keepOnly(2, 0, 0); keepOnly(3, 0, 1);"
        + "cells = 21/46/17/22;";

    public static void main(String[] args) {
        candidates();
        color();
        keepOnly();
        eliminate();
        decidedCount();
        averageCandidates();
        assignmentCount();
        assignmentColor();
        solveLine();
        S.end();
    }

    /** What all methods with a row and a column refuse. */
    private static void refusesOtherCells(String name, String rest) {
        S.refuses(RICH, name + "(-1, 0" + rest + ") -> NO_SUCH_INDEX", name + "(4, 0" + rest + ") -> NO_SUCH_INDEX",
            name + "(0, -1" + rest + ") -> NO_SUCH_INDEX", name + "(0, 2" + rest + ") -> NO_SUCH_INDEX",
            name + "(3, 2" + rest + ") -> NO_SUCH_INDEX", name + "(4, 1" + rest + ") -> NO_SUCH_INDEX",
            name + "(-1, 2" + rest + ") -> NO_SUCH_INDEX", name + "(2147483647, 0" + rest + ") -> NO_SUCH_INDEX",
            name + "(-2147483648, 0" + rest + ") -> NO_SUCH_INDEX",
            name + "(0, 2147483647" + rest + ") -> NO_SUCH_INDEX",
            name + "(0, -2147483648" + rest + ") -> NO_SUCH_INDEX");
    }

    private static void candidates() {
        S.section("Promise 12: candidates");
        S.says("Returns the candidates of a cell.");
        S.answers("reset(2, 3, 3); keepOnly(1, 0, 0); eliminate(0, 2, 3); candidates(0, 0) -> 15",
            "candidates(1, 0) -> 1; candidates(0, 2) -> 7; candidates(1, 2) -> 15");
        S.keeps(RICH, "candidates(1, 1) -> 6");
        S.says("- `row`: the row");
        S.answers(RICH, "candidates(0, 1) -> 7; candidates(3, 1) -> 2");
        S.answers("reset(8, 8, 1); candidates(7, 0) -> 3; candidates(8, 0) -> NO_SUCH_INDEX");
        S.says("- `column`: the column");
        S.answers(RICH, "candidates(1, 0) -> 7; candidates(1, 1) -> 6");
        S.answers("reset(8, 8, 1); candidates(0, 7) -> 3; candidates(0, 8) -> NO_SUCH_INDEX");
        S.says("Returns the candidates as a bit mask, or NO_SUCH_INDEX if there is no such cell.");
        S.answers("reset(1, 4, 3); keepOnly(0, 0, 0); keepOnly(0, 1, 1); keepOnly(0, 2, 2); keepOnly(0, 3, 3)",
            "candidates(0, 0) -> 1; candidates(0, 1) -> 2; candidates(0, 2) -> 4; candidates(0, 3) -> 8");
        refusesOtherCells("candidates", "");
    }

    private static void color() {
        S.section("Promise 13: color");
        S.says("Returns the color of a decided cell.");
        S.answers("reset(1, 4, 3); keepOnly(0, 0, 0); keepOnly(0, 1, 1); keepOnly(0, 2, 2); keepOnly(0, 3, 3)",
            "color(0, 0) -> 0; color(0, 1) -> 1; color(0, 2) -> 2; color(0, 3) -> 3");
        S.answers("reset(2, 3, 3); keepOnly(1, 2, 3); color(1, 2) -> 3; color(1, 0) -> UNDECIDED",
            "color(0, 2) -> UNDECIDED");
        S.keeps(RICH, "color(3, 1) -> 1");
        S.says("- `row`: the row");
        S.answers(RICH, "color(0, 1) -> UNDECIDED; color(3, 1) -> 1");
        S.says("- `column`: the column");
        S.answers(RICH, "color(3, 0) -> UNDECIDED; color(3, 1) -> 1");
        S.says("Returns the color; NO_SUCH_INDEX if there is no such cell (checked first);");
        refusesOtherCells("color", "");
        S.answers(HALF_DECIDED, "color(3, 0) -> 1; color(3, 1) -> 1; color(3, 2) -> NO_SUCH_INDEX; color(4, 0) -> -1");
        S.says("UNDECIDED if the cell is not decided.");
        S.refuses(RICH, "color(0, 0) -> UNDECIDED", "color(1, 1) -> UNDECIDED");
        S.answers(RICH, "eliminate(1, 1, 2) -> 1; color(1, 1) -> 1; undo(); color(1, 1) -> UNDECIDED");
    }

    private static void keepOnly() {
        S.section("Promise 14: keepOnly");
        S.says("Makes a color the only candidate of a cell.");
        S.answers(RICH, "keepOnly(0, 0, 0); keepOnly(1, 0, 1); keepOnly(2, 1, 2); cells = 17/26/74/72");
        S.changes("cells, edits", RICH, "keepOnly(1, 1, 1) -> 1");
        S.says("- `row`: the row");
        S.answers(RICH, "keepOnly(0, 1, 1) -> 2; keepOnly(3, 1, 1) -> 0; cells = 72/76/77/72");
        S.says("- `column`: the column");
        S.answers(RICH, "keepOnly(3, 0, 1) -> 2; keepOnly(3, 1, 1) -> 0; cells = 77/76/77/22");
        S.says("- `color`: the color, 0 to K");
        S.answers(RICH, "keepOnly(0, 0, 0) -> 2; keepOnly(0, 1, 2) -> 2; cells = 14/76/77/72");
        S.refuses(RICH, "keepOnly(0, 0, -1) -> BAD_ARGUMENT", "keepOnly(0, 0, 3) -> BAD_ARGUMENT",
            "keepOnly(0, 0, 32) -> -2", "keepOnly(0, 0, 33) -> -2", "keepOnly(0, 0, -32) -> -2",
            "keepOnly(0, 0, 2147483647) -> -2", "keepOnly(0, 0, -2147483648) -> -2");
        S.answers("keepOnly(0, 0, 2) -> BAD_ARGUMENT; keepOnly(0, 0, 1) -> 1; reset(1, 1, 3); keepOnly(0, 0, 4) -> -2",
            "keepOnly(0, 0, 3) -> 3");
        S.says("Returns the number of candidates that were removed, which may be 0;");
        S.answers("reset(1, 4, 3); keepOnly(0, 0, 2) -> 3; keepOnly(0, 0, 2) -> 0; eliminate(0, 1, 0)",
            "keepOnly(0, 1, 3) -> 2; eliminate(0, 2, 0); eliminate(0, 2, 1); keepOnly(0, 2, 2) -> 1; cells = 484f");
        S.changes("edits", RICH, "keepOnly(3, 1, 1) -> 0");
        S.says("NO_SUCH_INDEX if there is no such cell (checked first);");
        refusesOtherCells("keepOnly", ", 0");
        refusesOtherCells("keepOnly", ", 3");
        refusesOtherCells("keepOnly", ", -1");
        S.says("BAD_ARGUMENT if the color is out of range (checked second);");
        S.refuses(RICH, "keepOnly(3, 1, 3) -> BAD_ARGUMENT", "keepOnly(3, 1, -1) -> BAD_ARGUMENT");
        S.says("NOT_POSSIBLE if the color is not a candidate.");
        S.refuses(RICH, "keepOnly(3, 1, 0) -> NOT_POSSIBLE", "keepOnly(3, 1, 2) -> NOT_POSSIBLE",
            "keepOnly(1, 1, 0) -> NOT_POSSIBLE");
        S.answers(RICH, "keepOnly(1, 1, 0) -> NOT_POSSIBLE; undo(); keepOnly(1, 1, 0) -> 2");
        S.answers("reset(2, 3, 2); keepOnly(1, 2, 2) -> 2; keepOnly(1, 2, 1) -> NOT_POSSIBLE; keepOnly(1, 0, 1) -> 2",
            "keepOnly(0, 2, 0) -> 2; cells = 771/274");
    }

    private static void eliminate() {
        S.section("Promise 15: eliminate");
        S.says("Removes a color from the candidates of a cell.");
        S.answers(RICH, "eliminate(0, 0, 0); eliminate(1, 0, 1); eliminate(2, 1, 2); cells = 67/56/73/72");
        S.changes("cells, edits", RICH, "eliminate(1, 1, 1) -> 1");
        S.says("- `row`: the row");
        S.answers(RICH, "eliminate(0, 1, 1) -> 2; eliminate(2, 1, 1) -> 2; cells = 75/76/75/72");
        S.says("- `column`: the column");
        S.answers(RICH, "eliminate(1, 0, 1) -> 2; eliminate(1, 1, 1) -> 1; cells = 77/54/77/72");
        S.says("- `color`: the color, 0 to K");
        S.answers(RICH, "eliminate(0, 0, 0) -> 2; eliminate(0, 1, 2) -> 2; cells = 63/76/77/72");
        S.refuses(RICH, "eliminate(0, 0, -1) -> BAD_ARGUMENT", "eliminate(0, 0, 3) -> BAD_ARGUMENT",
            "eliminate(0, 0, 32) -> -2", "eliminate(0, 0, 33) -> -2", "eliminate(0, 0, -32) -> -2",
            "eliminate(0, 0, 2147483647) -> -2", "eliminate(0, 0, -2147483648) -> -2");
        S.answers("eliminate(0, 0, 2) -> BAD_ARGUMENT; eliminate(0, 0, 1) -> 1; reset(1, 1, 3)",
            "eliminate(0, 0, 4) -> -2; eliminate(0, 0, 3) -> 3");
        S.says("Returns the number of candidates that remain;");
        S.answers("reset(1, 1, 3); eliminate(0, 0, 2) -> 3; eliminate(0, 0, 0) -> 2; eliminate(0, 0, 3) -> 1",
            "cells = 2");
        S.says("NO_SUCH_INDEX if there is no such cell (checked first);");
        refusesOtherCells("eliminate", ", 0");
        refusesOtherCells("eliminate", ", 3");
        refusesOtherCells("eliminate", ", -1");
        S.says("BAD_ARGUMENT if the color is out of range (checked second);");
        S.refuses(RICH, "eliminate(3, 1, 3) -> BAD_ARGUMENT", "eliminate(3, 1, -1) -> BAD_ARGUMENT");
        S.says("NOT_POSSIBLE if the color is not a candidate or is the only one.");
        S.refuses(RICH, "eliminate(1, 1, 0) -> NOT_POSSIBLE", "eliminate(3, 1, 0) -> NOT_POSSIBLE",
            "eliminate(3, 1, 2) -> NOT_POSSIBLE", "eliminate(3, 1, 1) -> NOT_POSSIBLE");
        S.answers(RICH, "eliminate(1, 1, 1) -> 1; eliminate(1, 1, 2) -> NOT_POSSIBLE; undo(); eliminate(1, 1, 2) -> 1");
        S.answers("reset(2, 3, 1); eliminate(1, 2, 0) -> 1; eliminate(1, 2, 1) -> NOT_POSSIBLE",
            "eliminate(1, 2, 0) -> -5; eliminate(1, 0, 1) -> 1; eliminate(0, 2, 0) -> 1; cells = 332/132");
    }

    private static void decidedCount() {
        S.section("Promise 16: decidedCount");
        S.says("Returns the number of decided cells.");
        S.answers(RICH, "decidedCount() -> 1; eliminate(1, 1, 2); decidedCount() -> 2; undo(); decidedCount() -> 1");
        S.answers("reset(8, 8, 1); decidedCount() -> 0; drawPicture(3); decidedCount() -> 64; clearCells()",
            "decidedCount() -> 0; keepOnly(7, 7, 1); decidedCount() -> 1; keepOnly(7, 7, 1); decidedCount() -> 1");
        S.answers("reset(8, 8, 1); drawPicture(3); reset(2, 2, 1); decidedCount() -> 0; keepOnly(1, 1, 0)",
            "decidedCount() -> 1; propagate() -> 3; decidedCount() -> 4");
        S.keeps(RICH, "decidedCount() -> 1");
    }

    private static void averageCandidates() {
        S.section("Promise 17: averageCandidates");
        S.says("Returns the average number of candidates of the undecided cells of a line, in hundredths, rounded "
            + "down.");
        S.answers(HALF_DECIDED, "averageCandidates(1) -> 200; averageCandidates(2) -> 300",
            "averageCandidates(5) -> 250");
        S.answers("reset(2, 3, 3); eliminate(1, 2, 0); averageCandidates(4) -> 350; averageCandidates(1) -> 366",
            "averageCandidates(0) -> 400; averageCandidates(3) -> 400");
        S.keeps(RICH, "averageCandidates(1) -> 250");
        S.says("- `line`: the line");
        S.answers(RICH, "averageCandidates(0) -> 300; averageCandidates(3) -> 300; averageCandidates(4) -> 300",
            "averageCandidates(5) -> 266");
        S.refuses(RICH, "averageCandidates(-1) -> NO_SUCH_INDEX", "averageCandidates(6) -> NO_SUCH_INDEX");
        S.says("Returns the average times 100, rounded down to an integer;");
        S.answers("reset(1, 8, 3); averageCandidates(0) -> 400; eliminate(0, 0, 0); averageCandidates(0) -> 387",
            "eliminate(0, 1, 0); averageCandidates(0) -> 375; eliminate(0, 0, 1); averageCandidates(0) -> 362",
            "keepOnly(0, 2, 0); averageCandidates(0) -> 357; keepOnly(0, 3, 0); averageCandidates(0) -> 350",
            "eliminate(0, 0, 2); averageCandidates(0) -> 380");
        S.answers("reset(1, 3, 2); eliminate(0, 0, 0); averageCandidates(0) -> 266; eliminate(0, 1, 0)",
            "averageCandidates(0) -> 233");
        S.says("NO_SUCH_INDEX if there is no such line (checked first);");
        S.refuses(RICH + "propagate(); drawPicture(1);", "averageCandidates(-1) -> NO_SUCH_INDEX",
            "averageCandidates(6) -> NO_SUCH_INDEX", "averageCandidates(2147483647) -> NO_SUCH_INDEX",
            "averageCandidates(-2147483648) -> NO_SUCH_INDEX");
        S.says("EMPTY if all cells of the line are decided.");
        S.refuses(HALF_DECIDED, "averageCandidates(0) -> EMPTY", "averageCandidates(4) -> EMPTY");
        S.answers(HALF_DECIDED, "undo(); averageCandidates(4) -> 300; averageCandidates(0) -> EMPTY");
    }

    private static void assignmentCount() {
        S.section("Promise 18: assignmentCount");
        S.says("Returns the number of possible assignments of a line.");
        S.answers("reset(2, 8, 1); addRun(0, 1, 1); assignmentCount(0) -> 8; addRun(0, 1, 1)",
            "assignmentCount(0) -> 21; addRun(0, 1, 1); assignmentCount(0) -> 20; addRun(0, 1, 1)",
            "assignmentCount(0) -> 5; addRun(0, 1, 1); assignmentCount(0) -> 0; addRun(1, 8, 1)",
            "assignmentCount(1) -> 1; addRun(2, 1, 1); assignmentCount(2) -> 2");
        // Any four of the eight cells can have the colors 1, 2, 1 and 2 in this order.
        S.answers("reset(1, 8, 2); addRun(0, 1, 1); addRun(0, 1, 2); addRun(0, 1, 1); addRun(0, 1, 2)",
            "assignmentCount(0) -> 70; keepOnly(0, 7, 0); assignmentCount(0) -> 35; keepOnly(0, 0, 0)",
            "assignmentCount(0) -> 15; eliminate(0, 1, 1); assignmentCount(0) -> 5");
        S.keeps(RICH, "assignmentCount(2) -> 2");
        S.says("- `line`: the line");
        S.answers(RICH, "assignmentCount(0) -> 2; assignmentCount(1) -> 0; assignmentCount(3) -> 1",
            "assignmentCount(4) -> 3; assignmentCount(5) -> 0; clearClue(5); addRun(5, 3, 1); assignmentCount(5) -> 1");
        // The white cell behind the second run must be possible, too.
        S.answers("reset(1, 6, 1); addRun(0, 1, 1); addRun(0, 2, 1); addRun(0, 1, 1); assignmentCount(0) -> 1",
            "eliminate(0, 4, 0); assignmentCount(0) -> 0; undo(); eliminate(0, 3, 0); assignmentCount(0) -> 1",
            "eliminate(0, 1, 0); assignmentCount(0) -> 0");
        // A run that is gone needs no white cell before it.
        S.answers("reset(1, 2, 1); addRun(0, 1, 1); addRun(0, 1, 1); assignmentCount(0) -> 0; clearClue(0)",
            "addRun(0, 2, 1); assignmentCount(0) -> 1; reset(1, 2, 1); addRun(0, 2, 1); addRun(1, 1, 1)",
            "assignmentCount(0) -> 1");
        S.says("Returns the number, 0 if there is a contradiction;");
        S.answers("reset(1, 3, 1); assignmentCount(0) -> 1; eliminate(0, 2, 0); assignmentCount(0) -> 0",
            "addRun(0, 1, 1); assignmentCount(0) -> 1; addRun(0, 1, 1); assignmentCount(0) -> 1; addRun(0, 1, 1)",
            "assignmentCount(0) -> 0; addRun(1, 1, 1); assignmentCount(1) -> 1; addRun(2, 2, 1)",
            "assignmentCount(2) -> 0");
        S.keeps(RICH, "assignmentCount(5) -> 0");
        S.says("NO_SUCH_INDEX if there is no such line.");
        S.refuses(RICH, "assignmentCount(-1) -> NO_SUCH_INDEX", "assignmentCount(6) -> NO_SUCH_INDEX",
            "assignmentCount(2147483647) -> NO_SUCH_INDEX", "assignmentCount(-2147483648) -> NO_SUCH_INDEX");
        S.answers("reset(8, 8, 1); assignmentCount(15) -> 1; assignmentCount(16) -> NO_SUCH_INDEX");
    }

    private static void assignmentColor() {
        S.section("Promise 19: assignmentColor");
        S.says("Returns the color of a cell in one of the possible assignments of a line.");
        S.answers("reset(1, 3, 3); addRun(0, 1, 3); addRun(0, 2, 2); assignmentCount(0) -> 1",
            "assignmentColor(0, 0, 0) -> 3; assignmentColor(0, 0, 1) -> 2; assignmentColor(0, 0, 2) -> 2");
        S.keeps(RICH, "assignmentColor(0, 0, 1) -> 1", "assignmentColor(4, 2, 0) -> 1");
        S.says("The possible assignments are ordered by the colors of their cells: an assignment is before another one "
            + "if it has the smaller color at the first cell at which they differ.");
        orderOfAssignments();
        S.says("- `line`: the line");
        S.answers(RICH, "assignmentColor(0, 0, 0) -> 0; assignmentColor(3, 0, 0) -> 0; assignmentColor(3, 0, 1) -> 1",
            "assignmentColor(4, 0, 3) -> 1; undo(); undo(); undo(); assignmentColor(5, 0, 3) -> 1",
            "assignmentColor(5, 0, 2) -> 0");
        S.refuses(RICH, "assignmentColor(-1, 0, 0) -> NO_SUCH_INDEX", "assignmentColor(6, 0, 0) -> NO_SUCH_INDEX",
            "assignmentColor(2147483647, 0, 0) -> -1", "assignmentColor(-2147483648, 0, 0) -> -1");
        S.says("- `assignment`: the number of the assignment in this order, from 0");
        S.answers(RICH, "assignmentCount(4) -> 3; assignmentColor(4, 0, 0) -> 0; assignmentColor(4, 2, 0) -> 1");
        S.refuses(RICH, "assignmentColor(4, -1, 0) -> NO_SUCH_INDEX", "assignmentColor(4, 3, 0) -> NO_SUCH_INDEX",
            "assignmentColor(4, 2147483647, 0) -> -1", "assignmentColor(4, -2147483648, 0) -> -1");
        S.refuses(RICH, "assignmentColor(1, 0, 0) -> NO_SUCH_INDEX", "assignmentColor(5, 0, 0) -> NO_SUCH_INDEX");
        S.says("- `position`: the position of the cell in the line");
        S.answers(RICH, "assignmentColor(4, 0, 0) -> 0; assignmentColor(4, 0, 3) -> 1; assignmentColor(0, 1, 0) -> 1",
            "assignmentColor(0, 1, 1) -> 0");
        S.refuses(RICH, "assignmentColor(4, 0, -1) -> NO_SUCH_INDEX", "assignmentColor(4, 0, 4) -> NO_SUCH_INDEX",
            "assignmentColor(0, 0, -1) -> NO_SUCH_INDEX", "assignmentColor(0, 0, 2) -> NO_SUCH_INDEX",
            "assignmentColor(0, 0, 2147483647) -> -1", "assignmentColor(0, 0, -2147483648) -> -1");
        S.says("Returns the color, or NO_SUCH_INDEX if there is no such line, assignment or position.");
        S.refuses(RICH, "assignmentColor(6, 3, 4) -> NO_SUCH_INDEX", "assignmentColor(4, 3, 4) -> NO_SUCH_INDEX",
            "assignmentColor(-1, -1, -1) -> NO_SUCH_INDEX");
        S.answers("reset(8, 8, 3); assignmentColor(15, 0, 7) -> 0; assignmentColor(16, 0, 7) -> NO_SUCH_INDEX",
            "assignmentColor(15, 0, 8) -> NO_SUCH_INDEX; assignmentColor(15, 1, 7) -> NO_SUCH_INDEX");
    }

    private static void orderOfAssignments() {
        // 0012, 0102, 0120, 1002, 1020, 1200
        checkAssignments("reset(1, 4, 2); addRun(0, 1, 1); addRun(0, 1, 2);", "0012 0102 0120 1002 1020 1200");
        // The second run has the smaller color, but the white cell before it decides.
        checkAssignments("reset(1, 3, 3); addRun(0, 1, 3); addRun(0, 1, 1);", "031 301 310");
        checkAssignments("reset(1, 5, 1); addRun(0, 1, 1); addRun(0, 2, 1);", "01011 10011 10110");
        checkAssignments("reset(1, 6, 2); addRun(0, 1, 1); addRun(0, 3, 2); addRun(0, 1, 1);",
            "012221 102221 122201 122210");
        checkAssignments("reset(1, 6, 2); addRun(0, 1, 1); addRun(0, 3, 2); addRun(0, 1, 1); eliminate(0, 2, 0);"
            + "eliminate(0, 3, 0);", "012221 102221 122201 122210");
        checkAssignments("reset(1, 5, 2); addRun(0, 1, 2); addRun(0, 2, 1); eliminate(0, 4, 0);", "00211 02011 20011");
        checkAssignments("reset(1, 5, 2); addRun(0, 2, 2); addRun(0, 1, 1); eliminate(0, 1, 0);",
            "02201 02210 22001 22010 22100");
    }

    private static void checkAssignments(String setup, String colors) {
        String[] assignments = colors.split(" ");
        StringBuilder run = new StringBuilder(setup + "assignmentCount(0) -> " + assignments.length);
        for (int number = 0; number < assignments.length; number++) {
            for (int position = 0; position < assignments[number].length(); position++) {
                run.append("; assignmentColor(0, ").append(number).append(", ").append(position).append(") -> ")
                    .append(assignments[number].charAt(position));
            }
        }
        S.answers(run.toString(), "assignmentColor(0, " + assignments.length + ", 0) -> NO_SUCH_INDEX");
    }

    private static void solveLine() {
        S.section("Promise 20: solveLine");
        S.says("Solves one line.");
        S.answers("reset(2, 5, 1); addRun(0, 3, 1); addRun(3, 2, 1); solveLine(0) -> 1; cells = 33233/33333",
            "solveLine(3) -> 2; cells = 32233/32333; solveLine(0) -> 1; cells = 32231/32333");
        S.changes("cells, edits", RICH, "solveLine(0) -> 2");
        S.says("- `line`: the line");
        S.answers(RICH, "solveLine(0) -> 2; cells = 33/76/77/72; solveLine(3) -> 2; cells = 33/76/77/12",
            "solveLine(4) -> 3; cells = 33/26/37/12");
        S.answers("reset(8, 8, 1); solveLine(15) -> 8; cells = 33333331/33333331/33333331/33333331/33333331/33333331/"
            + "33333331/33333331; solveLine(16) -> NO_SUCH_INDEX");
        S.says("Returns the number of candidates that were removed;");
        S.answers("reset(1, 4, 3); solveLine(0) -> 12; solveLine(0) -> 0; solveLine(1) -> 0; undo(); undo(); undo()",
            "cells = ffff; addRun(0, 2, 3); solveLine(0) -> 8; cells = 9999; keepOnly(0, 0, 0); solveLine(0) -> 1",
            "cells = 1989");
        S.changes("edits", RICH + "solveLine(0);", "solveLine(0) -> 0");
        S.says("NO_SUCH_INDEX if there is no such line (checked first);");
        S.refuses(RICH, "solveLine(-1) -> NO_SUCH_INDEX", "solveLine(6) -> NO_SUCH_INDEX",
            "solveLine(2147483647) -> -1", "solveLine(-2147483648) -> -1");
        S.says("CONTRADICTION.");
        S.changes("contradiction", RICH, "solveLine(1) -> CONTRADICTION");
        S.answers(RICH, "solveLine(1) -> CONTRADICTION; contradictionLine() -> 1; contradictionDepth() -> 0",
            "undoCount() -> 4; cells = 77/76/77/72; addRun(1, 1, 2); solveLine(1) -> 3; cells = 77/14/77/72");
        S.answers("reset(1, 3, 1); addRun(0, 3, 1); solveLine(0) -> 3; undo(); addRun(0, 1, 1)",
            "solveLine(0) -> CONTRADICTION; cells = 333");
    }
}
