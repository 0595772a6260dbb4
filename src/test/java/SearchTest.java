/** Promises 27 to 31: the search for solutions. */
public final class SearchTest {
    private static final Runs RUNS = new Runs();
    private static final String FOUR_OF_FOUR = "1a/1a/1a/1a/1a/1a/1a/1a";

    public static void main(String[] args) {
        setRule();
        countSolutions();
        solutionColor();
        orderOfSolutions();
        searchNodes();
        selectionRules();
        searchLimit();
        isUnique();
        searchFromCandidates();
        RUNS.end();
    }

    private static void setRule() {
        RUNS.run("promise 27",
            "setRule(1) -> 0; setRule(2) -> 1; setRule(2) -> 2; setRule(3) -> BAD_ARGUMENT; setRule(-1) -> -2",
            "setRule(0) -> 2; setRule(0) -> 0; undoCount() -> 0; setRule(1); keepOnly(0, 0, 0); undo(); save()",
            "restore(); setRule(2) -> 1");
    }

    private static void countSolutions() {
        RUNS.run("promise 28", "countSolutions(1) -> 1; countSolutions(20) -> 1; undoCount() -> 0; decidedCount() -> 0");
        RUNS.run("promise 28, wrong",
            "countSolutions(0) -> BAD_ARGUMENT; countSolutions(21) -> -2; countSolutions(-1) -> -2",
            "countSolutions(-2147483648) -> -2; countSolutions(2147483647) -> -2");
        RUNS.run("promise 28, none",
            "addRun(9, 6, 1); countSolutions(20) -> 0; contradictionLine() -> EMPTY; undoCount() -> 1");
        RUNS.more("promise 28, six of six", Runs.puzzle(3, 3, 1, "1a/1a/1a/1a/1a/1a"),
            "countSolutions(1) -> 1; countSolutions(5) -> 5; countSolutions(6) -> 6; countSolutions(20) -> 6",
            "decidedCount() -> 0; undoCount() -> 1");
        RUNS.more("promise 28, at most the limit", Runs.puzzle(4, 4, 1, FOUR_OF_FOUR),
            "countSolutions(19) -> 19; countSolutions(20) -> 20");
        RUNS.more("promise 28, none behind a probe", Runs.puzzle(4, 2, 1, "1a/1a/1a/1a/2a/1a"),
            "passCount() -> 1; countSolutions(1) -> 0; searchNodes(1) -> 3; isUnique() -> 0");
    }

    private static void solutionColor() {
        RUNS.run("promise 29, wrong",
            "reset(2, 3, 1); solutionColor(-1, 9, 9) -> BAD_ARGUMENT; solutionColor(20, 0, 0) -> -2",
            "solutionColor(0, 2, 0) -> NO_SUCH_INDEX; solutionColor(0, 0, 3) -> -1; solutionColor(19, -1, 0) -> -1",
            "solutionColor(0, 0, -1) -> -1; solutionColor(1, 0, 0) -> EMPTY; solutionColor(0, 1, 2) -> 0",
            "addRun(0, 4, 1); solutionColor(0, 0, 0) -> EMPTY; solutionColor(0, 2, 0) -> -1");
        RUNS.more("promise 29, three colors", Runs.puzzle(1, 4, 3, "1c2a1b/1c/1a/1a/1b"),
            "solutionColor(0, 0, 0) -> 3; solutionColor(0, 0, 1) -> 1; solutionColor(0, 0, 2) -> 1",
            "solutionColor(0, 0, 3) -> 2; solutionColor(1, 0, 3) -> EMPTY; decidedCount() -> 0; undoCount() -> 1");
    }

    /** Children are visited by ascending color, so under rule 0 the later solutions are colored farther to the left. */
    private static void orderOfSolutions() {
        int[][] columnsOfRows = {{2, 1, 0}, {2, 0, 1}, {1, 2, 0}, {1, 0, 2}, {0, 2, 1}, {0, 1, 2}};
        NonogramSolver solver = Runs.puzzle(3, 3, 1, "1a/1a/1a/1a/1a/1a");
        for (int solution = 0; solution < 6; solution++) {
            for (int row = 0; row < 3; row++) {
                for (int column = 0; column < 3; column++) {
                    RUNS.due("solution " + solution + " at " + row + ", " + column,
                        solver.solutionColor(solution, row, column),
                        columnsOfRows[solution][row] == column ? 1 : 0);
                }
            }
        }
        RUNS.more("promise 29, no seventh", solver, "solutionColor(6, 0, 0) -> EMPTY");
    }

    private static void searchNodes() {
        RUNS.run("promise 30",
            "searchNodes(1) -> 1; searchNodes(20) -> 1; searchNodes(0) -> BAD_ARGUMENT; searchNodes(21) -> -2",
            "searchNodes(-5) -> -2; addRun(0, 6, 1); searchNodes(3) -> 1; undoCount() -> 1; decidedCount() -> 0");
        RUNS.more("promise 30, two solutions", Runs.puzzle(2, 2, 1, "1a/1a/1a/1a"),
            "searchNodes(1) -> 2; searchNodes(2) -> 3; searchNodes(3) -> 3; decidedCount() -> 0; undoCount() -> 1");
        // The root, and below it (0, 0) white with (0, 1) white and colored, and (0, 0) colored with (1, 1) likewise.
        RUNS.more("promise 30, six solutions", Runs.puzzle(3, 3, 1, "1a/1a/1a/1a/1a/1a"),
            "searchNodes(1) -> 4; searchNodes(2) -> 5; searchNodes(3) -> 7; searchNodes(4) -> 8; searchNodes(5) -> 10",
            "searchNodes(6) -> 11; searchNodes(20) -> 11");
    }

    /**
     * Behind a propagation the first undecided cell of a row has two candidates, as all cells before it are decided. So
     * rule 1, with its ties in row order, selects the same cells as rule 0.
     */
    private static void selectionRules() {
        compareRules("two nodes less", 3, 4, "1a1a/2a/1a/1a/1a/2a/1a", new int[] {7, 7, 5},
            "100101100010", "101000110100");
        compareRules("six nodes more", 5, 3, "2a/1a/1a/1a/1a/1a1a/1a1a/2a", new int[] {5, 5, 11},
            "011001100010100", "110001001100010");
        compareRules("three colors", 4, 3, "1b/1b/2b/1b1a/1b1b/2b/1b1a", new int[] {5, 5, 3},
            "200002220021", "200020022201");
        compareRules("cells with three candidates", 3, 3, "1a1c/1b1c/1b1a/1a1b/1c1b/1c1a",
            new int[] {5, 5, 5}, "103230021", "130023201");
        compareRules("the same number", 3, 5, "1a1b/2a/1a1a/1a/2a/1a/1a/1b", new int[] {5, 5, 5},
            "001021100001010", "010020110010010");
    }

    private static void compareRules(String name, int rows, int columns, String clues, int[] nodes, String first,
            String firstByRule2) {
        NonogramSolver solver = Runs.puzzle(rows, columns, 3, clues);
        for (int rule = 0; rule < 3; rule++) {
            solver.setRule(rule);
            RUNS.due(name + ": nodes by rule " + rule, solver.searchNodes(20), nodes[rule]);
            RUNS.same(name + ": first solution by rule " + rule, firstSolution(solver),
                rule == 2 ? firstByRule2 : first);
        }
        solver.setRule(0);
        RUNS.due(name + ": nodes by rule 0 again", solver.searchNodes(20), nodes[0]);
    }

    private static String firstSolution(NonogramSolver solver) {
        StringBuilder colors = new StringBuilder();
        for (int row = 0; row < solver.rowCount(); row++) {
            for (int column = 0; column < solver.columnCount(); column++) {
                colors.append(solver.solutionColor(0, row, column));
            }
        }
        return colors.toString();
    }

    private static void searchLimit() {
        RUNS.more("60 nodes are enough", Runs.puzzle(7, 5, 1, "1a/1a/2a/1a/2a/1a//1a1a/1a1a/1a/1a1a/1a"),
            "searchNodes(19) -> 59; searchNodes(20) -> 60; countSolutions(20) -> 20; solutionColor(19, 6, 0) -> 0",
            "isUnique() -> 0");
        RUNS.more("a 61st node", Runs.puzzle(7, 8, 1, "/1a/1a/1a//1a1a/2a/1a/1a//1a/1a/1a/1a1a/"),
            "searchNodes(19) -> 60; countSolutions(19) -> 19; solutionColor(18, 0, 0) -> 0",
            "searchNodes(20) -> SEARCH_LIMIT; countSolutions(20) -> SEARCH_LIMIT; solutionColor(19, 0, 0) -> -7",
            "solutionColor(19, 7, 0) -> NO_SUCH_INDEX; solutionColor(20, 7, 0) -> BAD_ARGUMENT; undoCount() -> 1",
            "searchNodes(1) -> 17; isUnique() -> 0");
        RUNS.more("rule 1", Runs.puzzle(8, 6, 1, "1a/1a/1a/1a1a/1a/1a1a/2a/1a1a/1a/2a1a/1a1a/1a1a1a/1a/2a"),
            "setRule(1); searchNodes(1) -> 28; searchNodes(2) -> -7; isUnique() -> SEARCH_LIMIT",
            "countSolutions(1) -> 1; countSolutions(2) -> -7; solutionColor(0, 0, 0); solutionColor(1, 0, 0) -> -7");
    }

    private static void isUnique() {
        RUNS.run("promise 31", "isUnique() -> 1; addRun(0, 6, 1); isUnique() -> 0; undoCount() -> 1");
        RUNS.more("promise 31, two", Runs.puzzle(2, 2, 1, "1a/1a/1a/1a"),
            "isUnique() -> 0; keepOnly(0, 0, 1); isUnique() -> 1; decidedCount() -> 1; undoCount() -> 2");
        RUNS.more("promise 31, by search", Runs.puzzle(2, 5, 1, "3a/1a1a/1a/1a/1a/1a/1a"),
            "isUnique() -> 1; countSolutions(2) -> 1; searchNodes(2) -> 3");
    }

    private static void searchFromCandidates() {
        RUNS.more("the root is the grid as it is", Runs.puzzle(3, 3, 1, "1a/1a/1a/1a/1a/1a"),
            "keepOnly(1, 1, 1); countSolutions(20) -> 2; searchNodes(20) -> 3; solutionColor(0, 0, 2) -> 1",
            "solutionColor(1, 0, 0) -> 1; eliminate(0, 0, 1); countSolutions(20) -> 1; undo(); undo()",
            "countSolutions(20) -> 6");
    }
}
