/** The runs in the document's section "Examples". */
public final class ExamplesTest {
    public static void main(String[] args) {
        Runs runs = new Runs();
        runs.run("a run that overlaps itself",
            "reset(1, 5, 1) -> 6; addRun(0, 3, 1) -> 1; assignmentCount(0) -> 3; solveLine(0) -> 1",
            "candidates(0, 0) -> 3; candidates(0, 2) -> 2; color(0, 2) -> 1");
        runs.run("runs of two colors",
            "reset(1, 5, 2) -> 6; addRun(0, 2, 1) -> 1; addRun(0, 2, 2) -> 2; minimumLength(0) -> 4",
            "assignmentCount(0) -> 3; assignmentColor(0, 0, 0) -> 0; assignmentColor(0, 2, 4) -> 0",
            "addRun(0, 1, 2) -> 3; minimumLength(0) -> 6; assignmentCount(0) -> 0");
        runs.run("two solutions",
            "reset(2, 2, 1) -> 4; addRun(0, 1, 1) -> 1; addRun(1, 1, 1) -> 1; addRun(2, 1, 1) -> 1",
            "addRun(3, 1, 1) -> 1; propagate() -> 0; countSolutions(5) -> 2; solutionColor(0, 0, 0) -> 0",
            "solutionColor(1, 0, 0) -> 1; isUnique() -> 0; probe(0, 0, 1) -> 0");
        runs.run("a contradiction",
            "reset(2, 2, 1) -> 4; addRun(0, 2, 1) -> 1; addRun(2, 1, 1) -> 1; propagate() -> -4",
            "contradictionLine() -> 3; contradictionDepth() -> 0; decidedCount() -> 0; undoCount() -> 2");
        runs.run("clues from text",
            "reset(1, 1, 1) -> 2; appendText(49) -> 1; appendText(97) -> 2; appendText(47) -> 3; parseClues() -> 1",
            "appendText(49) -> 1; appendText(98) -> 2; parseClues() -> -101; runCount(1) -> 0; undo() -> 0");
        runs.run("error codes",
            "addRun(10, 1, 1) -> -1; addRun(0, 9, 1) -> -2; keepOnly(0, 0, 1) -> 1; eliminate(0, 0, 1) -> -5",
            "color(0, 1) -> -6; reset(9, 1, 1) -> -2");
        runs.end();
    }
}
