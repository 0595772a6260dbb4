/** Promises 21 to 26: propagation, probing and the remembered contradiction. */
public final class PropagationTest {
    private static final Runs RUNS = new Runs();

    public static void main(String[] args) {
        propagate();
        propagateContradiction();
        passCount();
        probe();
        probeAll();
        probeAllContradiction();
        rememberedContradiction();
        RUNS.end();
    }

    private static void propagate() {
        RUNS.run("promise 21",
            "reset(2, 2, 1); addRun(0, 2, 1); addRun(2, 1, 1); addRun(3, 2, 1); addRun(1, 1, 1); propagate() -> 4",
            "color(0, 0) -> 1; color(0, 1) -> 1; color(1, 0) -> 0; color(1, 1) -> 1; propagate() -> 0",
            "undoCount() -> 6; undo() -> 5; decidedCount() -> 4; undo() -> 4; decidedCount() -> 0");
        RUNS.run("promise 21, empty clues", "reset(8, 8, 3); propagate() -> 192; decidedCount() -> 64");
    }

    private static void propagateContradiction() {
        RUNS.run("promise 21, contradiction",
            "reset(2, 2, 1); addRun(0, 2, 1); addRun(2, 1, 1); propagate() -> CONTRADICTION; decidedCount() -> 0",
            "candidates(0, 0) -> 3; undoCount() -> 2; contradictionLine() -> 3; contradictionDepth() -> 0",
            "addRun(3, 1, 1); propagate() -> 4; contradictionLine() -> 3; undoCount() -> 4");
        RUNS.run("promise 21, the first line in order",
            "reset(3, 1, 1); addRun(3, 2, 1); addRun(2, 1, 1); addRun(0, 1, 1); propagate() -> CONTRADICTION",
            "contradictionLine() -> 3; addRun(1, 2, 1); propagate() -> -4; contradictionLine() -> 1");
    }

    private static void passCount() {
        RUNS.run("promise 22",
            "passCount() -> 2; decidedCount() -> 0; propagate() -> 25; passCount() -> 1; undoCount() -> 1");
        RUNS.run("promise 22, contradiction",
            "addRun(9, 6, 1); passCount() -> CONTRADICTION; contradictionLine() -> EMPTY; contradictionDepth() -> EMPTY",
            "solveLine(9) -> -4; addRun(0, 7, 1); passCount() -> -4; contradictionLine() -> 9; undoCount() -> 2");
        NonogramSolver threePasses = Runs.puzzle(2, 3, 1, "1a/2a/1a/2a/");
        RUNS.more("promise 22, three passes", threePasses,
            "passCount() -> 3; candidates(1, 1) -> 3; propagate() -> 6; passCount() -> 1");
        NonogramSolver sevenPasses = Runs.puzzle(5, 5, 1, "1a1a/1a1a/1a/1a1a/1a1a/1a/1a/1a1a/2a/1a2a");
        RUNS.more("promise 22, seven passes", sevenPasses, "passCount() -> 7; propagate() -> 17; decidedCount() -> 17");
        NonogramSolver twoColors = Runs.puzzle(3, 3, 2, "1b1a/1b1a/1b/1b/1a1b/1a1b");
        RUNS.more("promise 22, two colors", twoColors, "passCount() -> 4; propagate() -> 18; passCount() -> 1");
    }

    private static void probe() {
        RUNS.run("promise 23",
            "reset(1, 4, 1); addRun(0, 2, 1); addRun(1, 1, 1); addRun(2, 1, 1); probe(0, 0, 0) -> 1; probe(0, 0, 1) -> 0",
            "probe(0, 2, 0) -> 0; probe(0, 2, 1) -> 1; decidedCount() -> 0; undoCount() -> 3",
            "contradictionLine() -> EMPTY; contradictionDepth() -> EMPTY");
        RUNS.run("promise 23, wrong",
            "reset(2, 3, 2); probe(2, 0, 9) -> NO_SUCH_INDEX; probe(0, 3, 0) -> -1; probe(-1, 0, 0) -> -1",
            "probe(0, -1, 0) -> -1; probe(0, 0, 3) -> BAD_ARGUMENT; probe(0, 0, -1) -> -2; eliminate(0, 0, 1)",
            "probe(0, 0, 1) -> NOT_POSSIBLE; eliminate(0, 0, 2); probe(0, 0, 0) -> NOT_POSSIBLE",
            "probe(0, 0, 2) -> NOT_POSSIBLE; probe(0, 0, 3) -> BAD_ARGUMENT; undoCount() -> 2");
        RUNS.run("promise 23, in a grid with a contradiction",
            "reset(2, 2, 1); addRun(0, 3, 1); probe(1, 1, 0) -> 1; probe(1, 1, 1) -> 1; contradictionLine() -> EMPTY");
    }

    private static void probeAll() {
        RUNS.run("promise 24, nothing to probe",
            "probeAll() -> 0; decidedCount() -> 25; undoCount() -> 1; probeAll() -> 0; undoCount() -> 2");
        RUNS.run("promise 24, two solutions",
            "reset(2, 2, 1); addRun(0, 1, 1); addRun(1, 1, 1); addRun(2, 1, 1); addRun(3, 1, 1); probeAll() -> 0",
            "decidedCount() -> 0; undoCount() -> 5");
        NonogramSolver solver = Runs.puzzle(2, 5, 1, "3a/1a1a/1a/1a/1a/1a/1a");
        RUNS.more("promise 24, one probe decides all", solver,
            "probeAll() -> 1; decidedCount() -> 10; firstMismatch() -> EMPTY; undoCount() -> 2; undo() -> 1",
            "decidedCount() -> 0; propagate() -> 2; decidedCount() -> 2; probeAll() -> 1; decidedCount() -> 10",
            "probeAll() -> 0; undoCount() -> 4; contradictionLine() -> EMPTY");
        NonogramSolver several = Runs.puzzle(4, 5, 1, "2a/1a/3a/1a/1a/1a/2a/1a/2a");
        RUNS.more("promise 24, several probes", several, "probeAll() -> 6; decidedCount() -> 8; probeAll() -> 0");
        RUNS.more("promise 24, a color that is no candidate is not probed", Runs.puzzle(2, 2, 3, "1b/1b/1b/1b"),
            "propagate() -> 8; candidates(0, 0) -> 5; probeAll() -> 0; candidates(0, 0) -> 5; candidates(1, 1) -> 5");
        NonogramSolver twoColors = Runs.puzzle(3, 4, 2, "1a1a/1a1a/2a/2a/1a/1a/2a");
        RUNS.more("promise 24, two colors", twoColors,
            "propagate() -> 16; decidedCount() -> 4; probeAll() -> 1; decidedCount() -> 12");
    }

    private static void probeAllContradiction() {
        RUNS.run("promise 24, contradiction at once",
            "reset(2, 2, 1); addRun(2, 3, 1); keepOnly(1, 1, 0); probeAll() -> CONTRADICTION; undoCount() -> 2",
            "contradictionLine() -> 2; contradictionDepth() -> 0; decidedCount() -> 1");
        RUNS.more("promise 24, contradiction behind a probe", Runs.puzzle(4, 2, 1, "1a/1a/1a/1a/2a/1a"),
            "propagate() -> 0; probeAll() -> CONTRADICTION; contradictionLine() -> 5; contradictionDepth() -> 1",
            "decidedCount() -> 0; candidates(0, 0) -> 3; undoCount() -> 2; solveLine(0) -> 0",
            "contradictionDepth() -> 1; addRun(2, 3, 1); solveLine(2) -> CONTRADICTION; contradictionLine() -> 2",
            "contradictionDepth() -> 0");
        RUNS.more("promise 24, contradiction behind nine probes", Runs.puzzle(4, 5, 1, "1a/1a1a/1a/1a/2a/1a/1a/1a/1a"),
            "probeAll() -> CONTRADICTION; contradictionLine() -> 3; contradictionDepth() -> 9; undoCount() -> 1",
            "decidedCount() -> 0; addRun(0, 8, 1); propagate() -> -4; contradictionDepth() -> 0",
            "contradictionLine() -> 0; undo(); probeAll() -> -4; contradictionDepth() -> 9; reset(1, 1, 1)",
            "contradictionDepth() -> EMPTY");
        RUNS.more("promise 24, contradiction with two colors", Runs.puzzle(3, 4, 2, "1a/1b1a/1b/1b/1b/1a1b/1a"),
            "propagate() -> 14; decidedCount() -> 3; probeAll() -> CONTRADICTION; contradictionLine() -> 2",
            "contradictionDepth() -> 2; decidedCount() -> 3");
    }

    private static void rememberedContradiction() {
        RUNS.run("promises 25 and 26",
            "contradictionLine() -> EMPTY; contradictionDepth() -> EMPTY; addRun(3, 6, 1); addRun(7, 6, 1); save()",
            "solveLine(7) -> -4; contradictionLine() -> 7; propagate() -> -4; contradictionLine() -> 3",
            "solveLine(7) -> -4; probeAll() -> -4; contradictionLine() -> 3; contradictionDepth() -> 0",
            "passCount() -> -4; probe(0, 0, 0) -> 1; countSolutions(2) -> 0; drawPicture(5); contradictionLine() -> 3",
            "clearCells(); keepOnly(0, 0, 0); undo() -> 0; contradictionLine() -> 3; contradictionDepth() -> 0",
            "restore() -> 0; contradictionLine() -> EMPTY; contradictionDepth() -> EMPTY");
    }
}
