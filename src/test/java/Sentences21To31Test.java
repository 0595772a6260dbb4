/** Promises 21 to 31, sentence by sentence: propagation, probing and the search. */
public final class Sentences21To31Test {
    private static final Sentences S = new Sentences();
    private static final String RICH = Sentences.RICH;
    /** A rich state without a contradiction; propagation decides all cells in three passes. */
    private static final String SOUND = RICH + "3 x undo(); eliminate(2, 1, 2); undoCount() -> 2; cells = 77/77/73/77;";
    /** Every cell behind the propagation is decided. */
    private static final String SOLVED = SOUND + "propagate() -> 15; cells = 12/11/21/21;";
    private static final String TWO_BY_TWO = "reset(2, 2, 1); text 1a/1a/1a/1a; parseClues() -> 4;";
    private static final String THREE_BY_THREE = "reset(3, 3, 1); text 1a/1a/1a/1a/1a/1a; parseClues() -> 6;";
    private static final String FOUR_SOLUTIONS = Sentences.puzzle(3, 3, 1, "1a/2a/1a/1a/2a/1a");
    /** With this many nodes, a search finds its first solution or the requested ones, or has looked everywhere. */
    private static final String FIRST_AT_60 = "reset(6, 7, 1); setRule(0);"
        + "text 1a/1a/1a1a/1a1a/1a1a/1a/1a/1a1a/2a/1a1a//1a/1a; parseClues() -> 17;";
    private static final String FIRST_AT_61 = "reset(6, 7, 2); setRule(0);"
        + "text 1b/1b/1a/1a1b/1a1b/1a1b/1a/1b/1b/1b1a/1a1a/1b/1b; parseClues() -> 18;";
    private static final String SECOND_AT_60 = "reset(7, 6, 1); setRule(2);"
        + "text 1a/1a1a/1a1a/1a/2a/1a1a/2a/2a1a/1a1a/1a/1a1a/1a1a/2a; parseClues() -> 20;";
    private static final String TWENTIETH_AT_60 = "reset(7, 5, 1); setRule(0);"
        + "text 1a/1a/2a/1a/2a/1a//1a1a/1a1a/1a/1a1a/1a; parseClues() -> 14;";
    private static final String TWENTIETH_AT_61 = "reset(7, 8, 1); setRule(0);"
        + "text /1a/1a/1a//1a1a/2a/1a/1a//1a/1a/1a/1a1a/; parseClues() -> 13;";
    private static final String ONE_IN_59 = "reset(7, 6, 1); setRule(0);"
        + "text 1a/1a/2a/2a/1a1a/1a1a/2a/1a1a/1a/2a/1a2a/1a2a/1a; parseClues() -> 18;";
    private static final String NONE_IN_59 = "reset(7, 6, 1); setRule(0);"
        + "text 1a1a/1a1a/1a/2a/2a/2a/1a/1a1a1a/1a/1a1a1a/1a/2a/1a1a; parseClues() -> 20;";
    private static final String FIFTEEN_IN_59 = "reset(5, 6, 1); setRule(0);"
        + "text 1a1a/1a/1a/2a/1a1a/1a1a/1a//1a/1a1a/1a1a; parseClues() -> 15;";
    private static final String EIGHTEEN_IN_61 = "reset(5, 6, 1); setRule(0);"
        + "text 1a1a/1a1a/2a/1a/2a/1a/1a1a/1a/1a/2a/1a1a; parseClues() -> 15;";
    private static final String NONE_IN_61 = "reset(6, 7, 1); setRule(2);"
        + "text 1a/1a/2a/1a1a/2a/1a1a/1a//1a/1a1a/1a/2a/3a; parseClues() -> 15;";
    /** A largest grid, with most colors. */
    private static final String LARGEST = Sentences.puzzle(8, 8, 3, "1a1c/1b1a1c1b1c/1a1b1c1a/1a1c2a/1a1c/1c1c/"
        + "1c1b1a1a/1c1a1a/2a1c/1a1c1c/1b1a1b/1a1b1c1a/2c1a/1c2a1c/1b1a1c2a/1c");
    /** A rich state whose search fails even for one solution. */
    private static final String HOPELESS = RICH + "parseClues();" + FIRST_AT_61
        + "addRun(0, 8, 1); solveLine(0) -> CONTRADICTION; undo() -> 1; text 1a;";

    public static void main(String[] args) {
        propagate();
        passCount();
        probe();
        probeAll();
        contradictionLine();
        contradictionDepth();
        setRule();
        countSolutions();
        solutionColor();
        searchNodes();
        isUnique();
        S.end();
    }

    private static void propagate() {
        S.section("Promise 21: propagate");
        S.says("Propagates.");
        S.answers(SOUND, "propagate(); cells = 12/11/21/21; propagate() -> 0");
        S.changes("cells, edits", SOUND, "propagate() -> 15");
        S.answers(Sentences.puzzle(4, 4, 1, "1a/1a/1a/1a/1a/1a/2a/1a1a"), "propagate(); cells = 3333/3333/3333/3333",
            "undoCount() -> 2");
        S.says("Returns the number of candidates that were removed, or CONTRADICTION.");
        S.answers("reset(8, 8, 3); propagate() -> 192; decidedCount() -> 64; propagate() -> 0; undoCount() -> 2");
        S.changes("edits", SOLVED, "propagate() -> 0");
        // The contradiction in line 1 is behind the solving of line 0, which is taken back.
        S.changes("contradiction", RICH, "propagate() -> CONTRADICTION");
        S.answers(RICH, "propagate() -> CONTRADICTION; contradictionLine() -> 1; contradictionDepth() -> 0",
            "undoCount() -> 4; cells = 77/76/77/72");
        // Row 0 is all colored, so column 1 would have a colored cell; its contradiction comes in the first pass.
        S.answers("reset(2, 2, 1); addRun(0, 2, 1); addRun(2, 1, 1); propagate() -> CONTRADICTION",
            "contradictionLine() -> 3; cells = 33/33; undoCount() -> 2");
    }

    private static void passCount() {
        S.section("Promise 22: passCount");
        S.says("Returns the number of passes that propagation would make now, without changing the grid.");
        S.keeps(SOUND, "passCount() -> 3");
        S.answers("passCount() -> 2; propagate() -> 25; passCount() -> 1; keepOnly(0, 0, 0); passCount() -> 1; undo()",
            "undo(); passCount() -> 2");
        S.answers(Sentences.puzzle(5, 5, 1, "1a1a/1a1a/1a/1a1a/1a1a/1a/1a/1a1a/2a/1a2a"), "passCount() -> 7",
            "propagate() -> 17");
        S.says("Returns the number of passes, including the last one that removes nothing;");
        S.keeps(SOLVED, "passCount() -> 1");
        S.answers(TWO_BY_TWO, "passCount() -> 1; keepOnly(0, 0, 1); passCount() -> 2; propagate() -> 3",
            "passCount() -> 1");
        S.says("CONTRADICTION, without remembering it.");
        S.refuses(RICH, "passCount() -> CONTRADICTION");
        S.refuses("addRun(3, 6, 1);", "passCount() -> CONTRADICTION");
        S.answers("addRun(3, 6, 1); passCount() -> CONTRADICTION; contradictionLine() -> EMPTY",
            "contradictionDepth() -> EMPTY");
        S.answers(RICH, "passCount() -> CONTRADICTION; contradictionLine() -> 5; contradictionDepth() -> 1");
    }

    private static void probe() {
        S.section("Promise 23: probe");
        S.says("Probes a candidate without changing the grid.");
        S.keeps(SOUND, "probe(0, 0, 1) -> 1", "probe(0, 1, 1) -> 0", "probe(3, 0, 1) -> 0");
        S.answers(THREE_BY_THREE, "probe(0, 0, 0) -> 0; probe(0, 0, 1) -> 0; probe(2, 2, 1) -> 0");
        S.says("- `row`: the row");
        S.answers(SOUND, "probe(0, 1, 1) -> 0; probe(3, 1, 1) -> 1");
        S.says("- `column`: the column");
        S.answers(SOUND, "probe(2, 0, 1) -> 0; probe(2, 1, 1) -> 1");
        S.says("- `color`: the color, 0 to K");
        S.answers(SOUND, "probe(0, 0, 0) -> 0; probe(0, 0, 1) -> 1; probe(0, 0, 2) -> 1");
        S.refuses(SOUND, "probe(0, 0, -1) -> BAD_ARGUMENT", "probe(0, 0, 3) -> BAD_ARGUMENT", "probe(0, 0, 32) -> -2",
            "probe(0, 0, 33) -> -2", "probe(0, 0, -32) -> -2", "probe(0, 0, 2147483647) -> -2",
            "probe(0, 0, -2147483648) -> -2");
        S.answers("probe(0, 0, 1) -> 1; probe(0, 0, 2) -> BAD_ARGUMENT; reset(1, 1, 3); probe(0, 0, 3) -> 1",
            "probe(0, 0, 4) -> BAD_ARGUMENT");
        S.says("Returns 1 if the probe fails, 0 if not;");
        S.answers("reset(1, 4, 1); addRun(0, 2, 1); addRun(1, 1, 1); addRun(2, 1, 1); probe(0, 0, 0) -> 1",
            "probe(0, 0, 1) -> 0; probe(0, 2, 0) -> 0; probe(0, 2, 1) -> 1; contradictionLine() -> EMPTY");
        S.says("NO_SUCH_INDEX if there is no such cell (checked first);");
        refusesOtherCells("0");
        refusesOtherCells("3");
        refusesOtherCells("-1");
        S.says("BAD_ARGUMENT if the color is out of range (checked second);");
        S.refuses(SOLVED, "probe(0, 0, -1) -> BAD_ARGUMENT", "probe(0, 0, 3) -> BAD_ARGUMENT");
        S.says("NOT_POSSIBLE if the color is not a candidate or is the only one.");
        S.refuses(SOUND, "probe(2, 1, 2) -> NOT_POSSIBLE");
        S.refuses(SOLVED, "probe(0, 0, 0) -> NOT_POSSIBLE", "probe(0, 0, 1) -> NOT_POSSIBLE",
            "probe(0, 1, 1) -> NOT_POSSIBLE");
        S.answers(SOUND, "probe(2, 1, 1) -> 1; eliminate(2, 1, 1) -> 1; probe(2, 1, 0) -> NOT_POSSIBLE");
    }

    private static void refusesOtherCells(String color) {
        S.refuses(SOUND, "probe(-1, 0, " + color + ") -> NO_SUCH_INDEX", "probe(4, 0, " + color + ") -> NO_SUCH_INDEX",
            "probe(0, -1, " + color + ") -> NO_SUCH_INDEX", "probe(0, 2, " + color + ") -> NO_SUCH_INDEX",
            "probe(3, 2, " + color + ") -> NO_SUCH_INDEX", "probe(2147483647, 0, " + color + ") -> NO_SUCH_INDEX",
            "probe(0, -2147483648, " + color + ") -> NO_SUCH_INDEX");
    }

    private static void probeAll() {
        S.section("Promise 24: probeAll");
        S.says("Propagates, and then probes in rounds.");
        S.answers(SOUND, "probeAll() -> 0; cells = 12/11/21/21");
        S.answers(Sentences.puzzle(2, 4, 1, "2a/1a1a/1a/1a/1a/1a"), "propagate() -> 0; probeAll() -> 1",
            "cells = 1221/2112");
        S.says("A round goes through the cells in row order and, for each cell, through the colors that are its "
            + "candidates when the round comes to the cell, in ascending order.");
        // By columns, or from the last cell on, it would be another number of colors, and another contradiction.
        S.answers(Sentences.puzzle(4, 4, 1, "2a/1a1a/1a/1a/2a/1a/1a1a/1a"), "probeAll() -> 2",
            "cells = 3231/2133/3113/1121");
        S.answers(Sentences.puzzle(4, 4, 1, "1a1a/1a/1a/2a/1a1a/1a/2a/1a"), "probeAll() -> 3",
            "cells = 2133/1121/1133/2211");
        S.answers(Sentences.puzzle(4, 4, 1, "1a/1a/1a1a/1a/2a/1a/2a/1a1a"), "probeAll() -> CONTRADICTION",
            "contradictionLine() -> 1; contradictionDepth() -> 3; cells = 3333/3333/3333/3333");
        // By descending colors, the contradiction would be in line 4, or one color less would be removed.
        S.answers(Sentences.puzzle(4, 3, 1, "2a/1a/1a/1a/1a/1a/1a"), "probeAll() -> CONTRADICTION",
            "contradictionLine() -> 6; contradictionDepth() -> 1");
        S.answers(Sentences.puzzle(5, 5, 2, "1a1a/1b1a/1b1a/1a1b/1b1b/1a1b/1b1a/1a2b/2a/1b"),
            "probeAll() -> 2; cells = 21331/55121/55731/12411/51514");
        S.says("A color is probed if it is still a candidate and the cell is not decided.");
        S.answers(Sentences.puzzle(2, 2, 3, "1b/1b/1b/1b"), "probeAll() -> 0; cells = 55/55");
        S.answers(SOLVED, "probeAll() -> 0; cells = 12/11/21/21");
        // A cell with three candidates loses two of them in the same round.
        S.answers(Sentences.puzzle(4, 5, 2, "2b/1b1a/1b1a1b1a/2b1a/2b/1b1a1b/1b1a1b/1b1a/1a"),
            "probeAll() -> 3; cells = 15451/57311/43773/54533");
        S.says("If the probe fails, the color is removed from the cell and the grid is propagated at once.");
        S.answers(Sentences.puzzle(4, 2, 1, "1a/1a/1a/1a/2a/1a1a"), "probeAll() -> 1; cells = 12/21/21/12");
        S.answers(Sentences.puzzle(2, 6, 1, "2a/1a1a/1a/1a///1a/1a"), "probeAll() -> CONTRADICTION",
            "contradictionLine() -> 1; contradictionDepth() -> 1");
        S.says("Rounds are repeated until a round removes no color by probing.");
        S.answers(Sentences.puzzle(3, 5, 2, "1a1b1a/1b1b/2b/1a1b/1b/1b/1b/1a1b"), "probeAll() -> 3",
            "cells = 25152/51515/55555");
        S.answers(Sentences.puzzle(3, 6, 1, "2a/1a/1a1a/1a/1a/1a//1a/1a"), "probeAll() -> 3",
            "cells = 333133/131133/313133");
        // A round goes on behind a removed color, and does not start again.
        S.answers(Sentences.puzzle(5, 5, 1, "1a1a/2a/1a1a/1a/1a/1a/1a1a/1a/1a1a/1a1a"), 
            "probeAll() -> 4; cells = 33112/11221/33112/33131/33131");
        S.says("Returns the number of colors that were removed because a probe failed;");
        S.changes("edits, cells", SOUND, "probeAll() -> 0");
        S.changes("edits", SOLVED, "probeAll() -> 0");
        S.answers(Sentences.puzzle(7, 6, 1, "1a/1a/2a/2a/1a1a/1a1a/2a/1a1a/1a/2a/1a2a/1a2a/1a"), "probeAll() -> 14",
            "decidedCount() -> 42; probeAll() -> 0; undoCount() -> 3; undo(); undo(); decidedCount() -> 0");
        S.answers(LARGEST, "probeAll() -> 7",
            "cells = 12111811/11428148/31348211/29191221/31311991/19191991/99433121/99133121");
        S.answers("reset(8, 8, 1); probeAll() -> 0; decidedCount() -> 64; reset(8, 8, 3); probeAll() -> 0",
            "decidedCount() -> 64");
        S.says("CONTRADICTION if a propagation of the grid has a contradiction, in which case the grid is as before "
            + "the call.");
        S.changes("contradiction", RICH, "probeAll() -> CONTRADICTION");
        S.answers(Sentences.puzzle(4, 4, 1, "1a/1a/1a/1a/1a/1a/2a/1a1a") + "keepOnly(0, 0, 0); eliminate(3, 3, 0);",
            "probeAll() -> CONTRADICTION; undoCount() -> 3; cells = 1333/3333/3333/3332");
        // The contradiction is behind a failed probe.
        S.changes("contradiction", RICH + "4 x undo(); addRun(1, 8, 1); solveLine(1) -> CONTRADICTION; undo() -> 0;",
            "probeAll() -> CONTRADICTION");
    }

    private static void contradictionLine() {
        S.section("Promise 25: contradictionLine");
        S.says("Returns the line of the remembered contradiction.");
        S.keeps(RICH, "contradictionLine() -> 5");
        S.answers("addRun(0, 6, 1); addRun(9, 6, 1); solveLine(9) -> CONTRADICTION; contradictionLine() -> 9",
            "solveLine(0) -> -4; contradictionLine() -> 0; clearClue(0); propagate() -> CONTRADICTION",
            "contradictionLine() -> 9");
        S.says("Returns the line, or EMPTY if no contradiction is remembered.");
        S.refuses("", "contradictionLine() -> EMPTY");
        S.refuses(RICH + "restore();", "contradictionLine() -> EMPTY");
        S.refuses(RICH + "reset(4, 2, 2);", "contradictionLine() -> EMPTY");
    }

    private static void contradictionDepth() {
        S.section("Promise 26: contradictionDepth");
        S.says("Returns the number of probes that had failed before the remembered contradiction, in the same call.");
        S.keeps(RICH, "contradictionDepth() -> 1");
        S.answers(Sentences.puzzle(4, 5, 1, "1a/1a1a/1a/1a/2a/1a/1a/1a/1a"), "probeAll() -> CONTRADICTION",
            "contradictionDepth() -> 9; probeAll() -> CONTRADICTION; contradictionDepth() -> 9; addRun(0, 8, 1)",
            "probeAll() -> CONTRADICTION; contradictionDepth() -> 0");
        S.says("It is 0 for solveLine and propagate.");
        S.answers(RICH, "contradictionDepth() -> 1; solveLine(1) -> CONTRADICTION; contradictionDepth() -> 0");
        S.answers(RICH, "contradictionDepth() -> 1; propagate() -> CONTRADICTION; contradictionDepth() -> 0");
        S.says("Returns the number of failed probes, or EMPTY if no contradiction is remembered.");
        S.refuses("", "contradictionDepth() -> EMPTY");
        S.refuses(RICH + "restore();", "contradictionDepth() -> EMPTY");
        S.refuses(RICH + "reset(4, 2, 2);", "contradictionDepth() -> EMPTY");
    }

    private static void setRule() {
        S.section("Promise 27: setRule");
        S.says("Sets the selection rule.");
        S.changes("rule", RICH, "setRule(1) -> 2");
        S.answers(Sentences.puzzle(3, 4, 1, "1a1a/2a/1a/1a/1a/2a/1a"), "searchNodes(20) -> 7; setRule(2)",
            "searchNodes(20) -> 5; setRule(1); searchNodes(20) -> 7; setRule(2); setRule(0); searchNodes(20) -> 7");
        S.says("- `rule`: the rule, 0 to 2");
        S.answers("setRule(0) -> 0; setRule(2) -> 0; setRule(1) -> 2; setRule(0) -> 1");
        S.refuses(RICH, "setRule(-1) -> BAD_ARGUMENT", "setRule(3) -> BAD_ARGUMENT");
        S.says("Returns the previous rule, or BAD_ARGUMENT if the rule is out of range.");
        S.keeps(RICH, "setRule(2) -> 2", "setRule(2147483647) -> BAD_ARGUMENT", "setRule(-2147483648) -> BAD_ARGUMENT");
        S.answers("setRule(1) -> 0; setRule(3) -> BAD_ARGUMENT; setRule(-1) -> BAD_ARGUMENT; setRule(1) -> 1",
            "setRule(0) -> 1");
    }

    private static void countSolutions() {
        S.section("Promise 28: countSolutions");
        S.says("Counts the solutions by searching for at most a given number of them.");
        S.answers(THREE_BY_THREE, "countSolutions(1) -> 1; countSolutions(5) -> 5; countSolutions(6) -> 6",
            "countSolutions(7) -> 6");
        S.answers(EIGHTEEN_IN_61, "countSolutions(17) -> 17; countSolutions(18) -> 18",
            "countSolutions(19) -> SEARCH_LIMIT");
        S.keeps(SOUND, "countSolutions(20) -> 1");
        S.says("- `limit`: the requested number of solutions, 1 to 20");
        S.answers(TWENTIETH_AT_60, "countSolutions(1) -> 1; countSolutions(20) -> 20");
        S.refuses(SOUND, "countSolutions(0) -> BAD_ARGUMENT", "countSolutions(21) -> BAD_ARGUMENT",
            "countSolutions(-1) -> BAD_ARGUMENT", "countSolutions(2147483647) -> -2",
            "countSolutions(-2147483648) -> -2");
        S.says("Returns the number of solutions that were found, 0 to limit;");
        S.answers(FIFTEEN_IN_59, "countSolutions(14) -> 14; countSolutions(15) -> 15; countSolutions(16) -> 15",
            "countSolutions(20) -> 15");
        S.answers(NONE_IN_59, "countSolutions(1) -> 0; countSolutions(20) -> 0");
        S.keeps(RICH, "countSolutions(1) -> 0");
        S.says("BAD_ARGUMENT if the limit is out of range (checked first);");
        S.refuses(HOPELESS, "countSolutions(0) -> BAD_ARGUMENT", "countSolutions(21) -> BAD_ARGUMENT");
        S.says("SEARCH_LIMIT.");
        S.refuses(HOPELESS, "countSolutions(1) -> SEARCH_LIMIT", "countSolutions(20) -> SEARCH_LIMIT");
        S.answers(FIRST_AT_60, "countSolutions(1) -> 1; countSolutions(2) -> SEARCH_LIMIT",
            "countSolutions(20) -> SEARCH_LIMIT");
        S.answers(SECOND_AT_60, "countSolutions(1) -> 1; countSolutions(2) -> 2; countSolutions(3) -> SEARCH_LIMIT");
        S.answers(TWENTIETH_AT_61, "countSolutions(19) -> 19; countSolutions(20) -> SEARCH_LIMIT",
            "countSolutions(18) -> 18");
        S.answers(NONE_IN_61, "countSolutions(1) -> SEARCH_LIMIT; setRule(0); countSolutions(1) -> 0");
    }

    private static void solutionColor() {
        S.section("Promise 29: solutionColor");
        S.says("Returns the color of a cell in a solution.");
        S.answers(Sentences.puzzle(1, 4, 3, "1c2a1b/1c/1a/1a/1b"), "solutionColor(0, 0, 0) -> 3",
            "solutionColor(0, 0, 1) -> 1; solutionColor(0, 0, 2) -> 1; solutionColor(0, 0, 3) -> 2",
            "decidedCount() -> 0");
        S.keeps(SOUND, "solutionColor(0, 2, 0) -> 1", "solutionColor(0, 2, 1) -> 0");
        S.says("The search requests one solution more than the number of the solution.");
        S.answers(FIRST_AT_60, "solutionColor(0, 0, 3) -> 1; solutionColor(0, 0, 2) -> 0",
            "solutionColor(1, 0, 3) -> SEARCH_LIMIT");
        S.answers(SECOND_AT_60, "solutionColor(1, 1, 0) -> 1; solutionColor(0, 1, 0) -> 0",
            "solutionColor(2, 1, 0) -> SEARCH_LIMIT");
        S.says("- `solution`: the number of the solution in the order in which the search finds them, 0 to 19");
        S.answers(FOUR_SOLUTIONS, Sentences.solutions(3, "001110010 010011100 010110001 100011010"));
        S.answers(FOUR_SOLUTIONS + "setRule(2);", Sentences.solutions(3, "001110010 100011010 010011100 010110001"));
        S.answers(TWENTIETH_AT_60, "solutionColor(19, 0, 1) -> 1; solutionColor(19, 0, 4) -> 0",
            "solutionColor(0, 0, 4) -> 1");
        S.refuses(SOUND, "solutionColor(-1, 0, 0) -> BAD_ARGUMENT", "solutionColor(20, 0, 0) -> BAD_ARGUMENT",
            "solutionColor(2147483647, 0, 0) -> BAD_ARGUMENT", "solutionColor(-2147483648, 0, 0) -> BAD_ARGUMENT");
        S.says("- `row`: the row");
        S.answers(SOUND, "solutionColor(0, 0, 1) -> 1; solutionColor(0, 1, 1) -> 0; solutionColor(0, 3, 0) -> 1");
        S.says("- `column`: the column");
        S.answers(SOUND, "solutionColor(0, 0, 0) -> 0; solutionColor(0, 0, 1) -> 1");
        S.says("Returns the color; BAD_ARGUMENT if the solution number is out of range (checked first);");
        S.refuses(SOUND, "solutionColor(-1, 4, 0) -> BAD_ARGUMENT", "solutionColor(20, 0, 2) -> BAD_ARGUMENT");
        S.refuses(HOPELESS, "solutionColor(20, 9, 9) -> BAD_ARGUMENT", "solutionColor(-1, 0, 0) -> BAD_ARGUMENT");
        S.says("NO_SUCH_INDEX if there is no such cell (checked second);");
        S.refuses(SOUND, "solutionColor(0, -1, 0) -> NO_SUCH_INDEX", "solutionColor(0, 4, 0) -> NO_SUCH_INDEX",
            "solutionColor(0, 0, -1) -> NO_SUCH_INDEX", "solutionColor(0, 0, 2) -> NO_SUCH_INDEX",
            "solutionColor(0, 2147483647, 0) -> -1", "solutionColor(0, 0, -2147483648) -> -1",
            "solutionColor(1, 4, 0) -> NO_SUCH_INDEX", "solutionColor(19, 0, 2) -> NO_SUCH_INDEX");
        S.refuses(HOPELESS, "solutionColor(0, 6, 0) -> NO_SUCH_INDEX", "solutionColor(0, 0, 7) -> NO_SUCH_INDEX");
        S.says("SEARCH_LIMIT if the search fails (checked third);");
        S.refuses(HOPELESS, "solutionColor(0, 5, 6) -> SEARCH_LIMIT", "solutionColor(19, 0, 0) -> SEARCH_LIMIT");
        S.answers(TWENTIETH_AT_61, "solutionColor(18, 0, 0) -> 0; solutionColor(19, 0, 0) -> SEARCH_LIMIT");
        // There are eighteen solutions, but the search for one more fails before it knows.
        S.answers(EIGHTEEN_IN_61, "solutionColor(17, 0, 0) -> 1; solutionColor(18, 0, 0) -> SEARCH_LIMIT",
            "solutionColor(19, 0, 0) -> SEARCH_LIMIT");
        S.says("EMPTY if there is no such solution.");
        S.refuses(RICH, "solutionColor(0, 0, 0) -> EMPTY");
        S.refuses(SOUND, "solutionColor(1, 0, 0) -> EMPTY", "solutionColor(19, 3, 1) -> EMPTY");
        S.answers(FIFTEEN_IN_59, "solutionColor(14, 0, 0) -> 1; solutionColor(15, 0, 0) -> EMPTY");
        S.answers(NONE_IN_59, "solutionColor(0, 0, 0) -> EMPTY");
    }

    private static void searchNodes() {
        S.section("Promise 30: searchNodes");
        S.says("Returns the number of nodes that a search for at most a given number of solutions visits.");
        S.answers(THREE_BY_THREE, "searchNodes(1) -> 4; searchNodes(2) -> 5; searchNodes(3) -> 7; searchNodes(4) -> 8",
            "searchNodes(5) -> 10; searchNodes(6) -> 11; searchNodes(7) -> 11");
        S.keeps(SOUND, "searchNodes(20) -> 1");
        S.says("- `limit`: the requested number of solutions, 1 to 20");
        S.answers(TWENTIETH_AT_60, "searchNodes(1) -> 12; searchNodes(19) -> 59; searchNodes(20) -> 60");
        S.refuses(SOUND, "searchNodes(0) -> BAD_ARGUMENT", "searchNodes(21) -> BAD_ARGUMENT",
            "searchNodes(-1) -> BAD_ARGUMENT", "searchNodes(2147483647) -> -2", "searchNodes(-2147483648) -> -2");
        S.says("Returns the number of nodes, at least 1;");
        S.keeps(RICH, "searchNodes(1) -> 1");
        S.answers("searchNodes(1) -> 1; reset(1, 1, 1); searchNodes(20) -> 1; addRun(0, 2, 1); searchNodes(20) -> 1");
        S.answers(NONE_IN_59, "searchNodes(1) -> 59; searchNodes(20) -> 59");
        S.answers(ONE_IN_59, "searchNodes(1) -> 48; searchNodes(2) -> 59; searchNodes(20) -> 59");
        S.says("BAD_ARGUMENT if the limit is out of range (checked first);");
        S.refuses(HOPELESS, "searchNodes(0) -> BAD_ARGUMENT", "searchNodes(21) -> BAD_ARGUMENT");
        S.answers(LARGEST, "searchNodes(20) -> 46; countSolutions(20) -> 20; setRule(2); searchNodes(20) -> 42",
            "propagate() -> 153; searchNodes(20) -> 42; setRule(1); searchNodes(20) -> 46; undo(); passCount() -> 4");
        S.answers(Sentences.puzzle(8, 8, 1, "1a/1a/1a/1a/1a/1a/1a/1a/1a/1a/1a/1a/1a/1a/1a/1a"),
            "searchNodes(18) -> 58; searchNodes(19) -> SEARCH_LIMIT; countSolutions(18) -> 18",
            "solutionColor(0, 0, 7) -> 1; solutionColor(0, 7, 0) -> 1");
        S.says("SEARCH_LIMIT.");
        S.refuses(HOPELESS, "searchNodes(1) -> SEARCH_LIMIT", "searchNodes(20) -> SEARCH_LIMIT");
        S.answers(FIRST_AT_60, "searchNodes(1) -> 60; searchNodes(2) -> SEARCH_LIMIT");
        S.answers(SECOND_AT_60, "searchNodes(1) -> 47; searchNodes(2) -> 60; searchNodes(3) -> SEARCH_LIMIT");
        S.answers(TWENTIETH_AT_61, "searchNodes(19) -> 60; searchNodes(20) -> SEARCH_LIMIT");
        S.answers(NONE_IN_61, "searchNodes(1) -> SEARCH_LIMIT; setRule(0); searchNodes(1) -> 43");
    }

    private static void isUnique() {
        S.section("Promise 31: isUnique");
        S.says("Returns whether there is exactly one solution, by searching for at most two.");
        S.keeps(SOUND, "isUnique() -> 1");
        S.keeps(RICH, "isUnique() -> 0");
        S.answers(TWENTIETH_AT_61, "isUnique() -> 0");
        S.answers(SECOND_AT_60, "isUnique() -> 0");
        S.says("Returns 1 if there is exactly one solution, 0 if there is none or more than one, or SEARCH_LIMIT.");
        S.answers("isUnique() -> 1; addRun(0, 6, 1); isUnique() -> 0");
        S.answers(TWO_BY_TWO, "isUnique() -> 0; keepOnly(0, 0, 1); isUnique() -> 1; keepOnly(0, 1, 1)",
            "isUnique() -> 0");
        S.answers(ONE_IN_59, "isUnique() -> 1; setRule(2); isUnique() -> SEARCH_LIMIT; setRule(1); isUnique() -> 1");
        S.answers(NONE_IN_59, "isUnique() -> 0");
        S.answers(FIRST_AT_60, "isUnique() -> SEARCH_LIMIT");
        S.refuses(HOPELESS, "isUnique() -> SEARCH_LIMIT");
    }
}
