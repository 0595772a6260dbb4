/** The section "Description" and the paragraph "In doubt", sentence by sentence. */
public final class SentencesDescriptionTest {
    private static final Sentences S = new Sentences();
    private static final String RICH = Sentences.RICH;
    private static final String CHEQUERED = "reset(1, 8, 2); keepOnly(0, 0, 1); keepOnly(0, 1, 2); keepOnly(0, 2, 1);"
        + "keepOnly(0, 3, 2); keepOnly(0, 4, 1); keepOnly(0, 5, 2); keepOnly(0, 6, 1); keepOnly(0, 7, 2);";
    /** Calls of all methods but solveLine, propagate, probeAll, reset and restore. */
    private static final String[] OTHER_CALLS = {"rowCount()", "columnCount()", "colorCount()", "addRun(0, 1, 1)",
        "addRun(0, 9, 1)", "clearClue(0)", "clearClue(9)", "runCount(0)", "runLength(0, 0)", "runColor(0, 0)",
        "minimumLength(0)", "candidates(0, 0)", "color(0, 0)", "keepOnly(0, 0, 1)", "keepOnly(0, 0, 3)",
        "eliminate(0, 0, 1)", "eliminate(0, 0, 3)", "decidedCount()", "averageCandidates(0)", "assignmentCount(1)",
        "assignmentColor(1, 0, 0)", "passCount()", "probe(0, 0, 0)", "contradictionLine()", "contradictionDepth()",
        "setRule(0)", "countSolutions(2)", "solutionColor(0, 0, 0)", "searchNodes(2)", "isUnique()", "firstMismatch()",
        "takeClues()", "drawPicture(1)", "clearCells()", "appendText(47)", "parseClues()", "formatClues()",
        "formattedCharacter(0)", "undo()", "save()", "createTable(0, 0, 1)", "writeTable(0, 0, 1)", "readTable(0, 0)",
        "exportCandidates(1)", "compareTable(1)", "undoCount()"};

    public static void main(String[] args) {
        S.section("Description");
        grid();
        lines();
        clues();
        candidates();
        lineSolving();
        propagation();
        probing();
        search();
        searchEnds();
        selectionRules();
        edits();
        rememberedContradiction();
        tables();
        errors();
        constants();
        S.section("In doubt");
        contradictionsInDoubt();
        searchesInDoubt();
        textsInDoubt();
        staysInDoubt();
        S.end();
    }

    private static void grid() {
        S.says("Grid. The grid has R rows and C columns, each 1 to 8, and K colors, 1 to 3.");
        S.answers("reset(1, 1, 1) -> 2; reset(8, 8, 3) -> 16; reset(0, 8, 3) -> BAD_ARGUMENT",
            "reset(9, 8, 3) -> BAD_ARGUMENT; reset(8, 0, 3) -> -2; reset(8, 9, 3) -> -2; reset(8, 8, 0) -> -2",
            "reset(8, 8, 4) -> -2; rowCount() -> 8");
        S.says("Rows, columns and positions are numbered from 0.");
        S.answers("reset(2, 3, 1); candidates(0, 0) -> 3; candidates(1, 2) -> 3; candidates(2, 2) -> -1",
            "candidates(1, 3) -> -1; candidates(-1, 0) -> -1; assignmentColor(0, 0, 0) -> 0",
            "assignmentColor(0, 0, 2) -> 0; assignmentColor(0, 0, 3) -> -1");
        S.says("A cell has one of the colors 0 to K; color 0 is white.");
        S.answers("reset(1, 3, 2); keepOnly(0, 0, 0) -> 2; keepOnly(0, 1, 2) -> 2; keepOnly(0, 2, 3) -> BAD_ARGUMENT",
            "keepOnly(0, 2, -1) -> BAD_ARGUMENT; addRun(0, 1, 0) -> BAD_ARGUMENT; reset(1, 1, 1); solveLine(0)",
            "color(0, 0) -> 0");
        S.says("A new solver has R = 5, C = 5 and K = 1.");
        S.answers("rowCount() -> 5; columnCount() -> 5; colorCount() -> 1");
    }

    private static void lines() {
        S.says("Lines. The lines are the rows and the columns: row r is line r, column c is line R + c.");
        S.answers("reset(2, 3, 1); solveLine(1); cells = 333/111; solveLine(2); cells = 133/111; solveLine(4)",
            "cells = 131/111; solveLine(5) -> NO_SUCH_INDEX; reset(3, 2, 1); solveLine(2); cells = 33/33/11",
            "solveLine(3); cells = 13/13/11");
        S.says("The cells of a row are ordered from left to right, the cells of a column from top to bottom.");
        S.answers("reset(3, 3, 2); addRun(1, 2, 1); addRun(1, 1, 2); addRun(5, 1, 2); addRun(5, 2, 1)",
            "assignmentColor(1, 0, 0) -> 1; assignmentColor(1, 0, 1) -> 1; assignmentColor(1, 0, 2) -> 2",
            "assignmentColor(5, 0, 0) -> 2; assignmentColor(5, 0, 1) -> 1; assignmentColor(5, 0, 2) -> 1",
            "solveLine(1); cells = 777/224/777; undo(); solveLine(5); cells = 774/772/772");
    }

    private static void clues() {
        S.says("Clues. Every line has a clue, a sequence of at most 8 runs.");
        S.answers("reset(1, 2, 1); 8 x addRun(2, 1, 1) -> 8; addRun(2, 1, 1) -> FULL; 8 x addRun(0, 1, 1) -> 8");
        S.says("A run has a length, 1 to 8, and a color, 1 to K.");
        S.answers("reset(1, 2, 2); addRun(0, 1, 1) -> 1; addRun(0, 8, 2) -> 2; addRun(0, 0, 1) -> -2",
            "addRun(0, 9, 1) -> -2; addRun(0, 1, 0) -> -2; addRun(0, 1, 3) -> -2");
        S.says("Runs are numbered from 0.");
        S.answers("addRun(0, 4, 1); addRun(0, 5, 1); runLength(0, 0) -> 4; runLength(0, 1) -> 5",
            "runLength(0, 2) -> NO_SUCH_INDEX");
        S.says("An assignment gives every cell of a line a color.");
        S.answers("reset(1, 8, 1); addRun(0, 1, 1); assignmentColor(0, 0, 7) -> 1; assignmentColor(0, 0, 0) -> 0",
            "assignmentColor(0, 7, 0) -> 1; assignmentColor(0, 7, 7) -> 0");
        S.says("A block of an assignment is a maximal sequence of adjacent cells with the same color other than "
            + "white.");
        S.answers("reset(1, 5, 2); drawPicture(0); cells = 14111; clearCells(); keepOnly(0, 0, 1); keepOnly(0, 1, 1)",
            "keepOnly(0, 2, 2); keepOnly(0, 3, 0); keepOnly(0, 4, 2); takeClues() -> 7; clues = 2a1b1b/1a/1a/1b//1b");
        S.says("An assignment matches the clue if the lengths and colors of its blocks, in order, are those of the "
            + "runs of the clue.");
        S.answers("reset(1, 3, 2); keepOnly(0, 0, 1); keepOnly(0, 1, 1); keepOnly(0, 2, 2); addRun(0, 2, 1)",
            "addRun(0, 1, 2); assignmentCount(0) -> 1; clearClue(0); addRun(0, 1, 2); addRun(0, 2, 1)",
            "assignmentCount(0) -> 0; clearClue(0); addRun(0, 1, 1); addRun(0, 1, 2); assignmentCount(0) -> 0",
            "clearClue(0); addRun(0, 2, 1); assignmentCount(0) -> 0; addRun(0, 1, 1); assignmentCount(0) -> 0",
            "clearClue(0); addRun(0, 2, 2); addRun(0, 1, 2); assignmentCount(0) -> 0");
        S.says("Two adjacent runs of the same color therefore need a white cell between them; two adjacent runs of "
            + "different colors do not.");
        S.answers("reset(1, 3, 2); addRun(0, 1, 1); addRun(0, 1, 1); assignmentCount(0) -> 1; solveLine(0)",
            "cells = 212; undo(); eliminate(0, 1, 0); assignmentCount(0) -> 0; clearClue(0); addRun(0, 1, 1)",
            "addRun(0, 2, 2); assignmentCount(0) -> 1; minimumLength(0) -> 3; clearClue(0); addRun(0, 2, 1)",
            "addRun(0, 1, 1); assignmentCount(0) -> 0; minimumLength(0) -> 4");
        S.answers(CHEQUERED, "addRun(0, 1, 1); addRun(0, 1, 2); addRun(0, 1, 1); addRun(0, 1, 2); addRun(0, 1, 1)",
            "addRun(0, 1, 2); addRun(0, 1, 1); assignmentCount(0) -> 0; addRun(0, 1, 2); assignmentCount(0) -> 1");
        S.says("An empty clue is matched by the white assignment only.");
        S.answers("reset(1, 3, 3); assignmentCount(0) -> 1; assignmentColor(0, 0, 1) -> 0; solveLine(0) -> 9",
            "cells = 111; undo(); eliminate(0, 2, 0); assignmentCount(0) -> 0");
        S.says("A clue may be impossible to match.");
        S.answers("reset(1, 3, 1); addRun(0, 3, 1); assignmentCount(0) -> 1; addRun(0, 1, 1) -> 2",
            "assignmentCount(0) -> 0; minimumLength(0) -> 5; addRun(1, 8, 1) -> 1; assignmentCount(1) -> 0");
        S.says("At first all clues are empty.");
        S.answers("clues = /////////; reset(1, 2, 3); clues = //");
    }

    private static void candidates() {
        S.says("Candidates. Every cell has a set of candidates, which are the colors that it may still have, as a bit "
            + "mask: color k is a candidate if bit k is 1.");
        S.answers("reset(1, 4, 3); eliminate(0, 0, 0); eliminate(0, 1, 1); eliminate(0, 2, 2); eliminate(0, 3, 3)",
            "cells = edb7");
        S.says("The set is never empty.");
        S.answers("eliminate(0, 0, 1) -> 1; eliminate(0, 0, 0) -> NOT_POSSIBLE; candidates(0, 0) -> 1",
            "addRun(0, 6, 1); solveLine(0) -> CONTRADICTION; candidates(0, 1) -> 3; propagate() -> CONTRADICTION",
            "candidates(0, 1) -> 3");
        S.says("At first every color from 0 to K is a candidate of every cell.");
        S.answers("cells = 33333/33333/33333/33333/33333; reset(2, 1, 2); cells = 7/7; reset(1, 2, 3); cells = ff");
        S.says("A cell is decided if it has exactly one candidate.");
        S.answers("reset(1, 1, 3); color(0, 0) -> UNDECIDED; eliminate(0, 0, 1); eliminate(0, 0, 0)",
            "color(0, 0) -> UNDECIDED; decidedCount() -> 0; eliminate(0, 0, 3); color(0, 0) -> 2; decidedCount() -> 1");
        S.says("An assignment of a line is possible if it matches the clue and gives every cell one of its "
            + "candidates.");
        S.answers("reset(1, 4, 1); addRun(0, 2, 1); assignmentCount(0) -> 3; eliminate(0, 0, 1)",
            "assignmentCount(0) -> 2; eliminate(0, 2, 0); assignmentCount(0) -> 2; eliminate(0, 3, 0)",
            "assignmentCount(0) -> 1; eliminate(0, 1, 0); assignmentCount(0) -> 0");
    }

    private static void lineSolving() {
        S.says("Line solving. Solving a line removes from each of its cells every candidate that the cell does not "
            + "have in any possible assignment of the line.");
        S.answers("reset(1, 8, 2); addRun(0, 3, 1); addRun(0, 2, 2); addRun(0, 1, 2); solveLine(0) -> 10",
            "cells = 32274555");
        S.answers("reset(1, 5, 1); addRun(0, 1, 1); addRun(0, 2, 1); solveLine(0) -> 1; cells = 33323",
            "eliminate(0, 2, 0); solveLine(0) -> 3; cells = 21221; undo(); undo(); eliminate(0, 0, 1)",
            "solveLine(0) -> 3; cells = 12122");
        S.says("If the line has no possible assignment, there is a contradiction in this line.");
        S.answers("reset(1, 2, 1); addRun(0, 1, 1); solveLine(0) -> 0; keepOnly(0, 0, 0); solveLine(0) -> 1",
            "eliminate(0, 1, 1); undo(); keepOnly(0, 1, 0); solveLine(0) -> CONTRADICTION; contradictionLine() -> 0");
    }

    private static void propagation() {
        S.says("Propagation. Propagation consists of passes.");
        S.answers(Sentences.puzzle(5, 5, 1, "1a1a/1a1a/1a/1a1a/1a1a/1a/1a/1a1a/2a/1a2a"), "passCount() -> 7",
            "propagate() -> 17");
        S.says("A pass solves the lines 0 to R + C - 1 in this order, each with the current candidates.");
        // Columns first it would be 2 and 3 passes; with the candidates from before the pass the last would need 3.
        S.answers(Sentences.puzzle(3, 2, 1, "1a/1a/1a/1a/2a"), "passCount() -> 3; propagate() -> 2");
        S.answers(Sentences.puzzle(3, 2, 1, "/2a/1a/1a/2a"), "passCount() -> 2; propagate() -> 6");
        S.answers(Sentences.puzzle(2, 2, 1, "1a//1a/"), "passCount() -> 2; propagate() -> 4");
        S.answers(Sentences.puzzle(4, 1, 1, "1a/1a///"), "propagate() -> CONTRADICTION; contradictionLine() -> 4");
        S.answers("addRun(9, 6, 1); addRun(3, 6, 1); addRun(4, 6, 1); propagate() -> CONTRADICTION",
            "contradictionLine() -> 3");
        S.answers("addRun(9, 6, 1); propagate() -> CONTRADICTION; contradictionLine() -> 9; addRun(0, 6, 1)",
            "propagate() -> -4; contradictionLine() -> 0");
        S.says("Propagation ends after the first pass that removes no candidate, or at once when a line has a "
            + "contradiction.");
        S.answers("reset(1, 1, 1); passCount() -> 2; propagate() -> 1; passCount() -> 1; propagate() -> 0");
        S.answers("reset(2, 2, 1); addRun(0, 2, 1); addRun(2, 1, 1); propagate() -> CONTRADICTION",
            "contradictionLine() -> 3; cells = 33/33");
    }

    private static void probing() {
        S.says("Probing. To probe a candidate of an undecided cell means to make it the only candidate of the cell in "
            + "a copy of the grid and to propagate there.");
        S.keeps(Sentences.puzzle(2, 2, 1, "1a/1a/1a/1a"), "probe(0, 0, 0) -> 0", "probe(0, 0, 1) -> 0",
            "probe(1, 1, 1) -> 0");
        S.answers(Sentences.puzzle(2, 2, 1, "1a/1a/1a/1a"), "keepOnly(1, 1, 1); probe(0, 0, 0) -> 1",
            "probe(0, 0, 1) -> 0; cells = 33/32");
        S.says("The probe fails if the propagation has a contradiction.");
        // The contradiction comes only in a later line and in a later pass.
        S.answers(Sentences.puzzle(4, 2, 1, "1a/1a/1a/1a/2a/1a1a"), "probe(0, 0, 0) -> 0; probe(0, 0, 1) -> 1",
            "probe(0, 1, 0) -> 1");
    }

    private static void search() {
        String six = Sentences.puzzle(3, 3, 1, "1a/1a/1a/1a/1a/1a");
        S.says("Search. The search works on a copy of the grid.");
        S.keeps(six, "countSolutions(20) -> 6", "searchNodes(20) -> 11", "isUnique() -> 0",
            "solutionColor(5, 0, 0) -> 1");
        S.says("To visit a node means to propagate; if there is a contradiction, the node has no solutions.");
        S.answers("addRun(0, 6, 1); countSolutions(20) -> 0; searchNodes(20) -> 1; isUnique() -> 0");
        S.answers(Sentences.puzzle(4, 2, 1, "1a/1a/1a/1a/2a/1a"), "countSolutions(20) -> 0; searchNodes(20) -> 3");
        S.says("Otherwise, if all cells are decided, the grid is a solution.");
        S.answers("reset(1, 1, 1); countSolutions(20) -> 1; searchNodes(20) -> 1; keepOnly(0, 0, 0)",
            "countSolutions(20) -> 1; solutionColor(0, 0, 0) -> 0; undo(); keepOnly(0, 0, 1); countSolutions(20) -> 0");
        S.says("Otherwise a cell is selected by the selection rule, and for each of its candidates in ascending order "
            + "a child node is visited, in which this candidate is the only candidate of the cell and all other cells "
            + "are as after the propagation of the parent node.");
        S.answers(Sentences.puzzle(2, 2, 1, "1a/1a/1a/1a"), "searchNodes(1) -> 2; solutionColor(0, 0, 0) -> 0",
            "solutionColor(1, 0, 0) -> 1");
        S.answers(Sentences.puzzle(2, 2, 3, "1b/1b/1b/1b"), "solutionColor(0, 0, 0) -> 0; solutionColor(1, 0, 0) -> 2",
            "searchNodes(20) -> 3");
        // The second child of the root must not know what the first has removed.
        S.answers(six, "searchNodes(3) -> 7; solutionColor(0, 0, 2) -> 1; solutionColor(2, 0, 1) -> 1",
            "solutionColor(4, 0, 0) -> 1; solutionColor(4, 1, 2) -> 1; solutionColor(4, 2, 1) -> 1");
        S.says("The root node is the grid as it is.");
        S.answers(six, "keepOnly(0, 0, 1); countSolutions(20) -> 2; searchNodes(20) -> 3; eliminate(1, 1, 1)",
            "countSolutions(20) -> 1; searchNodes(20) -> 1; undo(); undo(); countSolutions(20) -> 6");
    }

    private static void searchEnds() {
        S.says("The search stops as soon as it has found the requested number of solutions, and it fails when a 61st "
            + "node would have to be visited.");
        S.answers("reset(7, 5, 1); text 1a/1a/2a/1a/2a/1a//1a1a/1a1a/1a/1a1a/1a; parseClues(); searchNodes(1) -> 12",
            "searchNodes(2) -> 13; searchNodes(19) -> 59; searchNodes(20) -> 60; countSolutions(20) -> 20");
        S.answers("reset(7, 8, 1); text /1a/1a/1a//1a1a/2a/1a/1a//1a/1a/1a/1a1a/; parseClues(); searchNodes(18) -> 59",
            "searchNodes(19) -> 60; searchNodes(20) -> SEARCH_LIMIT; countSolutions(19) -> 19",
            "countSolutions(20) -> SEARCH_LIMIT");
        // Every child is visited: 59 nodes without a failure, and a tree of 61.
        S.answers("reset(5, 6, 1); text 1a1a/1a/1a/2a/1a1a/1a1a/1a//1a/1a1a/1a1a; parseClues(); searchNodes(15) -> 54",
            "searchNodes(16) -> 59; countSolutions(16) -> 15");
        S.answers("reset(5, 6, 1); text 1a1a/1a1a/2a/1a/2a/1a/1a1a/1a/1a/2a/1a1a; parseClues(); searchNodes(18) -> 56",
            "searchNodes(19) -> SEARCH_LIMIT; countSolutions(19) -> SEARCH_LIMIT");
    }

    private static void selectionRules() {
        S.says("Selection rules. Rule 0 selects the first undecided cell in row order, that is, row by row from the "
            + "top and from left to right in a row.");
        solutions(3, 3, 1, "1a/2a/1a/1a/2a/1a", "setRule(0)", "001110010 010011100 010110001 100011010");
        solutions(2, 4, 2, "1a1b/1a1b/1a/1a/1b/1b", "setRule(0)", "01021020 01201002 10020120 10200102");
        S.says("Rule 1 selects the undecided cell with the fewest candidates.");
        // By the most candidates, the first solution would be 010201020.
        solutions(3, 3, 2, "1a/1b1a/1b/1b/1a1b/1a", "setRule(1)", "001210020 010021200 010201020");
        solutions(3, 3, 3, "1b1a/1b1c/1c/1b/1b1c/1a1c", "setRule(1)", "021203030 021230003 201023030");
        S.says("Rule 2 selects the undecided cell for which the number of decided cells in its row plus the number of "
            + "decided cells in its column is the maximum.");
        solutions(3, 3, 1, "1a/2a/1a/1a/2a/1a", "setRule(2)", "001110010 100011010 010011100 010110001");
        solutions(3, 3, 2, "1b1a/1b/1b/1b/1b/1a1b", "setRule(2)", "021002200 021200002 201002020 201020002");
        solutions(3, 3, 2, "1a/1b1a/1b/1b/1a1b/1a", "setRule(2)", "010021200 010201020 001210020");
        solutions(3, 4, 2, "1a1b/1b1a/1b1a/1a1b/1b/1b/2a", "setRule(2)",
            "102002012001 102020010201 120000212001 120020010021");
        S.says("In rules 1 and 2, ties are resolved by row order.");
        solutions(2, 4, 2, "1a1b/1a1b/1a/1a/1b/1b", "setRule(1)", "01021020 01201002 10020120 10200102");
        solutions(2, 4, 2, "1a1b/1a1b/1a/1a/1b/1b", "setRule(2)", "01021020 01201002 10020120 10200102");
        solutions(3, 3, 3, "1a1c/1c/1c/1a1c/1c/1c", "setRule(2)", "103030300 103300030 130003300 130300003");
        S.says("The rule is 0 at first.");
        S.answers("setRule(0) -> 0");
        solutions(3, 3, 1, "1a/2a/1a/1a/2a/1a", "rowCount()", "001110010 010011100 010110001 100011010");
    }

    private static void solutions(int rows, int columns, int colors, String clues, String call, String solutions) {
        S.answers(Sentences.puzzle(rows, columns, colors, clues), call, Sentences.solutions(columns, solutions));
    }

    private static void edits() {
        S.says("Edits. Each successful call of addRun, clearClue, keepOnly, eliminate, solveLine, propagate, probeAll, "
            + "parseClues and takeClues is one edit, even if nothing changes.");
        S.answers("reset(1, 2, 1); addRun(0, 1, 1) -> 1; undoCount() -> 1; clearClue(0) -> 1; undoCount() -> 2",
            "keepOnly(0, 0, 0); undoCount() -> 3; eliminate(0, 1, 1) -> 1; undoCount() -> 4; text //",
            "parseClues() -> 0; undoCount() -> 5; solveLine(0) -> 0; undoCount() -> 6; propagate() -> 0",
            "undoCount() -> 7; takeClues() -> 0; undoCount() -> 8");
        S.answers("probeAll() -> 0; undoCount() -> 1; probeAll() -> 0; undoCount() -> 2; clearClue(0) -> 0",
            "undoCount() -> 3; keepOnly(0, 0, 0) -> 0; undoCount() -> 4; takeClues() -> 0; undoCount() -> 5",
            "takeClues() -> 0; undoCount() -> 6");
        S.says("undo restores the clues and candidates from before the latest edit that is not undone; at most 8 edits "
            + "can be undone, because older states are forgotten.");
        S.answers("reset(1, 2, 1); addRun(0, 1, 1); keepOnly(0, 0, 1); addRun(0, 2, 1); eliminate(0, 1, 1)",
            "solveLine(0); clearClue(0); propagate(); text 1a//; parseClues(); undoCount() -> 6; undo() -> 5",
            "cells = 21; undo() -> 4; clues = 1a2a//; undo() -> 3; cells = 23; clues = 1a2a//; undo() -> 2",
            "clues = 1a//; undo() -> 1; cells = 33; undo() -> 0; clues = //; undo() -> EMPTY");
        S.answers("reset(1, 2, 1); addRun(0, 1, 1); addRun(0, 2, 1); addRun(0, 3, 1); addRun(0, 4, 1); addRun(0, 5, 1)",
            "addRun(0, 6, 1); addRun(0, 7, 1); addRun(0, 8, 1); undoCount() -> 8; keepOnly(0, 0, 1); keepOnly(0, 1, 0)",
            "undoCount() -> 8; 8 x undo() -> 0; clues = 1a2a//; cells = 33; undo() -> EMPTY; clues = 1a2a//");
        for (String edit : new String[] {"addRun(2, 2, 1)", "clearClue(0)", "keepOnly(0, 0, 1)", "eliminate(0, 0, 1)",
            "solveLine(0)", "propagate()", "probeAll()", "text //1a///; parseClues()"}) {
            S.answers(RICH, "undo(); undo(); undo() -> 1; clearClue(1); keepOnly(3, 0, 1); cells = 77/77/77/27;" + edit,
                "undoCount() -> 4; undo() -> 3; cells = 77/77/77/27; clues = 1a//1a/1a/2a/1a");
        }
        S.answers("reset(2, 3, 2); drawPicture(1); addRun(0, 2, 2); takeClues(); undo() -> 1; cells = 411/112",
            "clues = 1b2b/1a/1b//1a; undo() -> 0; clues = 1b/1a/1b//1a");
        S.says("There is no redo.");
        S.answers("addRun(0, 1, 1); addRun(0, 2, 1); addRun(0, 3, 1); undo() -> 2; undo() -> 1; runCount(0) -> 1",
            "undoCount() -> 1; addRun(0, 4, 1) -> 2; undo() -> 1; runCount(0) -> 1; undo() -> 0; runCount(0) -> 0",
            "undo() -> EMPTY");
        S.says("reset and restore forget all earlier states.");
        S.answers(RICH, "undoCount() -> 4; reset(4, 2, 2); undoCount() -> 0; undo() -> EMPTY; addRun(0, 1, 1)",
            "undo() -> 0; undo() -> EMPTY");
        S.answers(RICH, "undoCount() -> 4; restore(); undoCount() -> 0; undo() -> EMPTY; addRun(0, 1, 1); undo() -> 0",
            "undo() -> EMPTY; clues = 2c//");
    }

    private static void rememberedContradiction() {
        S.says("Remembered contradiction. When solveLine, propagate or probeAll returns CONTRADICTION, the solver "
            + "remembers the line of the contradiction and the number of probes that had failed in this call before.");
        S.answers("addRun(7, 6, 1); solveLine(7) -> CONTRADICTION; contradictionLine() -> 7",
            "contradictionDepth() -> 0");
        S.answers("addRun(6, 6, 1); propagate() -> CONTRADICTION; contradictionLine() -> 6; contradictionDepth() -> 0");
        S.answers("addRun(5, 6, 1); probeAll() -> CONTRADICTION; contradictionLine() -> 5; contradictionDepth() -> 0");
        S.answers(Sentences.puzzle(4, 5, 1, "1a/1a1a/1a/1a/2a/1a/1a/1a/1a"), "probeAll() -> CONTRADICTION",
            "contradictionLine() -> 3; contradictionDepth() -> 9");
        S.says("A later call that returns CONTRADICTION replaces it.");
        S.changes("contradiction", RICH, "solveLine(1) -> CONTRADICTION");
        S.changes("contradiction", RICH, "propagate() -> CONTRADICTION");
        S.changes("contradiction", RICH, "probeAll() -> CONTRADICTION");
        S.answers(RICH, "solveLine(1) -> CONTRADICTION; contradictionLine() -> 1; contradictionDepth() -> 0",
            "4 x undo(); probeAll() -> CONTRADICTION; contradictionLine() -> 5; contradictionDepth() -> 1",
            "propagate() -> 8; contradictionLine() -> 5; contradictionDepth() -> 1");
        S.says("reset and restore forget it; no other call changes it.");
        S.answers(RICH, "reset(9, 1, 1) -> BAD_ARGUMENT; contradictionLine() -> 5; reset(4, 2, 2)",
            "contradictionLine() -> EMPTY; contradictionDepth() -> EMPTY");
        S.answers(RICH, "restore(); contradictionLine() -> EMPTY; contradictionDepth() -> EMPTY");
        S.answers("addRun(0, 6, 1); solveLine(0); restore() -> EMPTY; contradictionLine() -> 0",
            "contradictionDepth() -> 0");
        for (String call : OTHER_CALLS) {
            S.answers(RICH, call + "; contradictionLine() -> 5; contradictionDepth() -> 1");
            S.answers(call + "; contradictionLine() -> EMPTY; contradictionDepth() -> EMPTY");
        }
        S.answers(RICH, "4 x undo(); solveLine(0) -> 2; propagate() -> 6; contradictionLine() -> 5",
            "contradictionDepth() -> 1");
        S.answers(RICH, "drawPicture(1); probeAll() -> 0; takeClues(); contradictionLine() -> 5",
            "contradictionDepth() -> 1");
        S.answers("probeAll(); solveLine(0); propagate(); contradictionLine() -> EMPTY; contradictionDepth() -> EMPTY");
    }

    private static void tables() {
        S.says("Tables. There are three tables, numbered 0 to 2.");
        S.answers("createTable(0, 1, 1) -> 1; createTable(1, 1, 1) -> 1; createTable(2, 1, 1) -> 1",
            "writeTable(0, 0, 10); writeTable(1, 0, 11); writeTable(2, 0, 12); readTable(0, 0) -> 10",
            "readTable(1, 0) -> 11; readTable(2, 0) -> 12; createTable(3, 1, 1) -> BAD_ARGUMENT",
            "createTable(-1, 1, 1) -> BAD_ARGUMENT");
        S.says("A table is missing, as all are at first, or it is an array with elements of type byte (type 0), int "
            + "(type 1) or boolean (type 2).");
        S.answers("readTable(0, 0) -> MISSING_TABLE; readTable(1, 0) -> MISSING_TABLE",
            "readTable(2, 0) -> MISSING_TABLE; createTable(1, 0, 1); readTable(0, 0) -> MISSING_TABLE",
            "readTable(1, 0) -> 0; readTable(2, 0) -> MISSING_TABLE");
        S.answers("createTable(0, 0, 1); createTable(1, 1, 1); createTable(2, 2, 1); writeTable(0, 0, 511)",
            "readTable(0, 0) -> -1; writeTable(1, 0, 511); readTable(1, 0) -> 511; writeTable(2, 0, 511)",
            "readTable(2, 0) -> 1");
    }

    private static void errors() {
        S.says("Errors. A call that returns an error code leaves the state unchanged, unless its description says "
            + "otherwise.");
        S.refuses(RICH, "reset(9, 1, 1) -> -2", "addRun(6, 1, 1) -> -1", "clearClue(6) -> -1", "runCount(6) -> -1",
            "runLength(0, 1) -> -1", "runColor(0, 1) -> -1", "minimumLength(6) -> -1", "candidates(4, 0) -> -1",
            "color(0, 0) -> -6", "keepOnly(1, 1, 0) -> -5", "eliminate(3, 1, 1) -> -5", "averageCandidates(6) -> -1",
            "assignmentCount(6) -> -1", "assignmentColor(1, 0, 0) -> -1", "solveLine(6) -> -1", "passCount() -> -4",
            "probe(3, 1, 1) -> -5", "setRule(3) -> -2", "countSolutions(21) -> -2", "solutionColor(0, 0, 0) -> -8",
            "searchNodes(0) -> -2", "firstMismatch() -> -6", "takeClues() -> -6", "appendText(127) -> -2",
            "formattedCharacter(17) -> -1", "createTable(0, 0, -1) -> -14", "writeTable(0, 3, 1) -> -13",
            "readTable(2, 0) -> -11", "exportCandidates(2) -> -11", "compareTable(1) -> -12");
        S.refuses("", "undo() -> EMPTY", "restore() -> EMPTY", "contradictionLine() -> EMPTY",
            "contradictionDepth() -> EMPTY");
        S.says("If several errors apply, the one that is listed first is returned.");
        S.answers("addRun(10, 9, 2) -> NO_SUCH_INDEX; 8 x addRun(0, 1, 1); addRun(0, 9, 1) -> BAD_ARGUMENT",
            "addRun(0, 1, 1) -> FULL");
        S.answers("keepOnly(5, 0, 2) -> NO_SUCH_INDEX; keepOnly(0, 0, 2) -> BAD_ARGUMENT",
            "probe(5, 0, 2) -> NO_SUCH_INDEX; probe(0, 0, 2) -> BAD_ARGUMENT; eliminate(5, 0, 2) -> NO_SUCH_INDEX",
            "eliminate(0, 0, 2) -> BAD_ARGUMENT");
        S.answers("createTable(3, 0, -1) -> BAD_ARGUMENT; writeTable(3, -1, 0) -> BAD_ARGUMENT",
            "writeTable(0, -1, 0) -> -11; readTable(3, -1) -> BAD_ARGUMENT; readTable(0, -1) -> MISSING_TABLE",
            "exportCandidates(3) -> BAD_ARGUMENT; createTable(0, 2, 0); exportCandidates(0) -> WRONG_TYPE",
            "createTable(0, 1, 0); compareTable(0) -> WRONG_TYPE");
        S.answers("solutionColor(20, 5, 0) -> BAD_ARGUMENT; solutionColor(1, 5, 0) -> NO_SUCH_INDEX",
            "color(5, 0) -> NO_SUCH_INDEX");
    }

    private static void constants() {
        S.says("The constants:");
        S.due("NO_SUCH_INDEX", NonogramSolver.NO_SUCH_INDEX, -1);
        S.says("- `NO_SUCH_INDEX = -1`: A row, column, line, run or position does not exist.");
        S.answers("candidates(5, 0) -> NO_SUCH_INDEX; candidates(0, 5) -> NO_SUCH_INDEX; runCount(10) -> NO_SUCH_INDEX",
            "runLength(0, 0) -> NO_SUCH_INDEX; formattedCharacter(0) -> NO_SUCH_INDEX; assignmentColor(0, 0, 5) -> -1");
        S.says("- `BAD_ARGUMENT = -2`: An argument other than an index is out of range.");
        S.due("BAD_ARGUMENT", NonogramSolver.BAD_ARGUMENT, -2);
        S.answers("reset(0, 1, 1) -> -2; addRun(0, 0, 1) -> -2; keepOnly(0, 0, 2) -> -2; setRule(3) -> -2",
            "appendText(31) -> -2");
        S.says("- `FULL = -3`: A clue has 8 runs, or the text has 120 characters.");
        S.due("FULL", NonogramSolver.FULL, -3);
        S.answers("8 x addRun(0, 1, 1) -> 8; addRun(0, 1, 1) -> -3; 120 x appendText(32) -> 120; appendText(32) -> -3");
        S.says("- `CONTRADICTION = -4`: A line has no possible assignment.");
        S.due("CONTRADICTION", NonogramSolver.CONTRADICTION, -4);
        S.answers("addRun(0, 6, 1); solveLine(0) -> -4; propagate() -> -4; probeAll() -> -4; passCount() -> -4");
        S.says("- `NOT_POSSIBLE = -5`: The color is not a candidate of the cell, or it is the only one.");
        S.due("NOT_POSSIBLE", NonogramSolver.NOT_POSSIBLE, -5);
        S.answers("keepOnly(0, 0, 1); keepOnly(0, 0, 0) -> -5; eliminate(0, 0, 0) -> -5; eliminate(0, 0, 1) -> -5",
            "probe(0, 0, 1) -> -5");
        S.says("- `UNDECIDED = -6`: Not all cells are decided.");
        S.due("UNDECIDED", NonogramSolver.UNDECIDED, -6);
        S.answers("color(0, 0) -> -6; firstMismatch() -> -6; takeClues() -> -6");
        S.says("- `SEARCH_LIMIT = -7`: The search would need more than 60 nodes.");
        S.due("SEARCH_LIMIT", NonogramSolver.SEARCH_LIMIT, -7);
        S.answers("reset(6, 7, 1); text 1a/1a/1a1a/1a1a/1a1a/1a/1a/1a1a/2a/1a1a//1a/1a; parseClues()",
            "searchNodes(1) -> 60; countSolutions(2) -> -7; searchNodes(2) -> -7; isUnique() -> -7",
            "solutionColor(1, 0, 0) -> -7");
        S.says("- `EMPTY = -8`: There is nothing to undo, to restore or to explain.");
        S.due("EMPTY", NonogramSolver.EMPTY, -8);
        S.answers("undo() -> -8; restore() -> -8; contradictionLine() -> -8; contradictionDepth() -> -8");
        S.says("- `MISSING_TABLE = -11`: The table is missing.");
        S.due("MISSING_TABLE", NonogramSolver.MISSING_TABLE, -11);
        S.answers("readTable(0, 0) -> -11; writeTable(0, 0, 0) -> -11; exportCandidates(0) -> -11",
            "compareTable(0) -> -11");
        S.says("- `WRONG_TYPE = -12`: The table has another element type.");
        S.due("WRONG_TYPE", NonogramSolver.WRONG_TYPE, -12);
        S.answers("createTable(0, 0, 64); createTable(2, 2, 64); exportCandidates(2) -> -12; compareTable(0) -> -12");
        S.says("- `OUT_OF_BOUNDS = -13`: A table index is out of bounds.");
        S.due("OUT_OF_BOUNDS", NonogramSolver.OUT_OF_BOUNDS, -13);
        S.answers("createTable(0, 0, 1); readTable(0, 0) -> 0; readTable(0, 1) -> -13; writeTable(0, -1, 0) -> -13");
        S.says("- `NEGATIVE_LENGTH = -14`: The length of a table is negative.");
        S.due("NEGATIVE_LENGTH", NonogramSolver.NEGATIVE_LENGTH, -14);
        S.answers("createTable(0, 0, 0) -> 1; createTable(0, 0, -1) -> -14");
        S.says("The constructor and the methods follow, a promise each: the signature, then what it does.");
        S.answers("rowCount() -> 5");
    }

    private static void contradictionsInDoubt() {
        S.says("An edit call that returns CONTRADICTION is no edit and leaves all candidates as they were.");
        S.changes("contradiction", RICH, "solveLine(1) -> CONTRADICTION");
        S.changes("contradiction", RICH, "propagate() -> CONTRADICTION");
        S.changes("contradiction", RICH, "probeAll() -> CONTRADICTION");
        S.answers("addRun(9, 6, 1); keepOnly(0, 0, 0); propagate() -> CONTRADICTION; undoCount() -> 2; undo() -> 1",
            "cells = 33333/33333/33333/33333/33333; probeAll() -> CONTRADICTION; undoCount() -> 1",
            "candidates(1, 1) -> 3");
        S.says("The depth of a contradiction of probeAll counts the probe whose color was removed last.");
        S.answers(Sentences.puzzle(4, 2, 1, "1a/1a/1a/1a/2a/1a"), "probe(0, 0, 0) -> 1; probeAll() -> CONTRADICTION",
            "contradictionDepth() -> 1; contradictionLine() -> 5");
        S.says("In a grid that has a contradiction already, probe returns 1.");
        S.answers("addRun(9, 6, 1); probe(0, 0, 0) -> 1; probe(0, 0, 1) -> 1; probe(4, 4, 0) -> 1",
            "contradictionLine() -> EMPTY");
        S.refuses("addRun(9, 6, 1); keepOnly(0, 0, 1);", "probe(0, 0, 1) -> NOT_POSSIBLE",
            "probe(0, 0, 0) -> NOT_POSSIBLE");
        S.says("passCount is at least 1.");
        S.answers("propagate(); passCount() -> 1; reset(1, 1, 1); keepOnly(0, 0, 0); passCount() -> 1");
    }

    private static void searchesInDoubt() {
        S.says("searchNodes is at least 1, as the root counts;");
        S.answers("searchNodes(1) -> 1; addRun(0, 6, 1); searchNodes(1) -> 1; searchNodes(20) -> 1");
        S.says("a search that has found enough before another node would have to be visited does not fail.");
        S.answers("reset(6, 7, 1); text 1a/1a/1a1a/1a1a/1a1a/1a/1a/1a1a/2a/1a1a//1a/1a; parseClues()",
            "searchNodes(1) -> 60; countSolutions(1) -> 1; solutionColor(0, 0, 3) -> 1",
            "searchNodes(2) -> SEARCH_LIMIT");
        S.says("keepOnly with the only candidate is an edit that returns 0.");
        S.answers("keepOnly(0, 0, 1) -> 1; keepOnly(0, 0, 1) -> 0; undoCount() -> 2; undo() -> 1",
            "candidates(0, 0) -> 2");
        S.says("The color of a drawn cell is that of the state behind the draw.");
        // The states before these draws would give color 0.
        S.answers("reset(1, 1, 3); drawPicture(5) -> 1; color(0, 0) -> 3; drawPicture(6) -> 1; color(0, 0) -> 2");
        S.answers("reset(1, 4, 3); drawPicture(0) -> 1; cells = 1112");
    }

    private static void textsInDoubt() {
        S.says("A clue ends where nothing follows, also right behind a slash;");
        S.answers("reset(1, 1, 1); text /; parseClues() -> 0; text 1a/; parseClues() -> 1; clues = 1a/; text /1a",
            "parseClues() -> 1; clues = /1a");
        S.says("a ninth run is an error at its digit,");
        S.answers("reset(1, 1, 1); text 1a1a1a1a1a1a1a1a1a/; parseClues() -> -116; text 1a1a1a1a1a1a1a1a/",
            "parseClues() -> 8; text /1a1a1a1a1a1a1a1a1a; parseClues() -> -117; text 1a1a1a1a1a1a1a1a1",
            "parseClues() -> -116");
        S.says("and a text with too few lines is incomplete at its length.");
        S.answers("reset(2, 2, 1); text //; parseClues() -> -102; text 1a/1a/1a; parseClues() -> -108; text ///",
            "parseClues() -> 0; parseClues() -> -100");
        S.says("formatClues of a grid without clues gives slashes alone.");
        S.answers("formatClues() -> 9; formatted = /////////; reset(8, 8, 1); formatClues() -> 15",
            "formatted = ///////////////; reset(1, 1, 1); formatClues() -> 1; formatted = /");
    }

    private static void staysInDoubt() {
        S.says("The contradiction that is told stays behind passCount, probe, searches, drawPicture, clearCells and "
            + "undo.");
        for (String call : new String[] {"passCount()", "probe(0, 0, 0)", "countSolutions(2)", "solutionColor(0, 0, 0)",
            "searchNodes(2)", "isUnique()", "drawPicture(1)", "clearCells()", "undo()"}) {
            S.answers(RICH, call + "; contradictionLine() -> 5; contradictionDepth() -> 1");
        }
        S.says("The formatted text stays behind reset, undo and restore.");
        S.answers(RICH, "undo(); formatted = 1a/1a/1a/1a/2a/1a; restore(); formatted = 1a/1a/1a/1a/2a/1a",
            "reset(1, 1, 1); formatted = 1a/1a/1a/1a/2a/1a");
        S.says("compareTable is OUT_OF_BOUNDS only if it comes to a cell for which there is no element; further "
            + "elements do not matter.");
        S.answers("reset(1, 3, 1); createTable(0, 2, 2); writeTable(0, 1, 1); compareTable(0) -> 1; keepOnly(0, 1, 1)",
            "compareTable(0) -> OUT_OF_BOUNDS; createTable(0, 2, 64); writeTable(0, 3, 1); compareTable(0) -> 1",
            "writeTable(0, 1, 1); compareTable(0) -> EMPTY; reset(2, 2, 1); compareTable(0) -> 1");
    }
}
