/** Promises 12 to 17: the candidates. */
public final class CandidatesTest {
    private static final Runs RUNS = new Runs();

    public static void main(String[] args) {
        candidates();
        color();
        keepOnly();
        eliminate();
        decidedCount();
        averageCandidates();
        RUNS.end();
    }

    private static void candidates() {
        RUNS.run("promise 12",
            "reset(2, 3, 3); candidates(0, 0) -> 15; eliminate(0, 1, 1); candidates(0, 1) -> 13; candidates(1, 1) -> 15",
            "candidates(1, 0) -> 15; keepOnly(1, 2, 3); candidates(1, 2) -> 8; candidates(2, 0) -> NO_SUCH_INDEX",
            "candidates(0, 3) -> -1; candidates(-1, 0) -> -1; candidates(0, -1) -> -1; candidates(1, 3) -> -1",
            "candidates(-2147483648, 2147483647) -> -1");
    }

    private static void color() {
        RUNS.run("promise 13",
            "reset(2, 3, 3); color(1, 2) -> UNDECIDED; keepOnly(1, 2, 3); color(1, 2) -> 3; keepOnly(0, 0, 0)",
            "color(0, 0) -> 0; keepOnly(0, 1, 1); color(0, 1) -> 1; keepOnly(0, 2, 2); color(0, 2) -> 2",
            "eliminate(1, 0, 0); eliminate(1, 0, 3); color(1, 0) -> UNDECIDED; eliminate(1, 0, 1); color(1, 0) -> 2",
            "color(2, 0) -> NO_SUCH_INDEX; color(0, 3) -> -1; color(-1, 0) -> -1; color(0, -1) -> -1");
    }

    private static void keepOnly() {
        RUNS.run("promise 14",
            "reset(2, 3, 3); keepOnly(0, 0, 2) -> 3; candidates(0, 0) -> 4; candidates(0, 1) -> 15",
            "candidates(1, 0) -> 15; keepOnly(0, 0, 2) -> 0; undoCount() -> 2; eliminate(1, 2, 3)",
            "keepOnly(1, 2, 0) -> 2; candidates(1, 2) -> 1; undo() -> 3; candidates(1, 2) -> 7");
        RUNS.run("promise 14, wrong",
            "reset(2, 3, 2); keepOnly(2, 0, 9) -> NO_SUCH_INDEX; keepOnly(0, 3, 0) -> -1; keepOnly(-1, 0, 0) -> -1",
            "keepOnly(0, -1, 0) -> -1; keepOnly(0, 0, 3) -> BAD_ARGUMENT; keepOnly(0, 0, -1) -> -2",
            "keepOnly(0, 0, 32) -> -2; eliminate(0, 0, 1); keepOnly(0, 0, 1) -> NOT_POSSIBLE; candidates(0, 0) -> 5",
            "undoCount() -> 1; keepOnly(0, 0, 0) -> 1; keepOnly(0, 0, 2) -> -5; keepOnly(0, 0, 3) -> -2");
    }

    private static void eliminate() {
        RUNS.run("promise 15",
            "reset(2, 3, 3); eliminate(1, 1, 2) -> 3; candidates(1, 1) -> 11; candidates(1, 0) -> 15",
            "eliminate(1, 1, 0) -> 2; eliminate(1, 1, 3) -> 1; candidates(1, 1) -> 2; undoCount() -> 3",
            "eliminate(1, 1, 1) -> NOT_POSSIBLE; eliminate(1, 1, 0) -> NOT_POSSIBLE; candidates(1, 1) -> 2",
            "undoCount() -> 3; undo() -> 2; candidates(1, 1) -> 10");
        RUNS.run("promise 15, wrong",
            "reset(2, 3, 1); eliminate(2, 0, 5) -> NO_SUCH_INDEX; eliminate(0, 3, 0) -> -1; eliminate(-1, 0, 0) -> -1",
            "eliminate(0, -1, 0) -> -1; eliminate(0, 0, 2) -> BAD_ARGUMENT; eliminate(0, 0, -1) -> -2",
            "undoCount() -> 0; candidates(0, 0) -> 3");
    }

    private static void decidedCount() {
        RUNS.run("promise 16",
            "reset(2, 3, 2); decidedCount() -> 0; keepOnly(0, 0, 1); eliminate(1, 2, 0); decidedCount() -> 1",
            "eliminate(1, 2, 1); decidedCount() -> 2; undo(); decidedCount() -> 1; propagate() -> CONTRADICTION",
            "decidedCount() -> 1; clearCells(); propagate() -> 12; decidedCount() -> 6");
    }

    private static void averageCandidates() {
        RUNS.run("promise 17",
            "reset(2, 3, 3); averageCandidates(0) -> 400; eliminate(0, 0, 0); averageCandidates(0) -> 366",
            "eliminate(0, 1, 0); averageCandidates(0) -> 333; averageCandidates(1) -> 400",
            "averageCandidates(2) -> 350; keepOnly(0, 2, 1); averageCandidates(0) -> 300; averageCandidates(4) -> 400",
            "keepOnly(1, 2, 0); averageCandidates(4) -> EMPTY; averageCandidates(5) -> NO_SUCH_INDEX",
            "averageCandidates(-1) -> -1; undoCount() -> 4");
    }
}
