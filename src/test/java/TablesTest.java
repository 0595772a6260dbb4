/** Promises 43 to 47: the tables. */
public final class TablesTest {
    private static final Runs RUNS = new Runs();

    public static void main(String[] args) {
        createTable();
        writeAndRead();
        elementTypes();
        exportCandidates();
        compareTable();
        RUNS.end();
    }

    private static void createTable() {
        RUNS.run("promise 43",
            "createTable(0, 0, 0) -> 1; readTable(0, 0) -> OUT_OF_BOUNDS; createTable(2, 2, 64) -> 1",
            "readTable(2, 63) -> 0; readTable(2, 64) -> -13; createTable(1, 1, 64) -> 1; readTable(1, 0) -> 0",
            "writeTable(1, 63, 5); createTable(1, 1, 64) -> 1; readTable(1, 63) -> 0; writeTable(1, 3, 5)",
            "createTable(1, 1, 3) -> 1; readTable(1, 3) -> -13; createTable(1, 1, 4); readTable(1, 3) -> 0");
        RUNS.run("promise 43, wrong",
            "createTable(-1, 0, 1) -> BAD_ARGUMENT; createTable(3, 0, 1) -> -2; createTable(0, -1, 1) -> -2",
            "createTable(0, 3, 1) -> -2; createTable(0, 0, 65) -> -2; createTable(0, 0, 2147483647) -> -2",
            "createTable(0, 0, -1) -> NEGATIVE_LENGTH; createTable(0, 0, -2147483648) -> -14",
            "createTable(3, 0, -1) -> BAD_ARGUMENT; createTable(0, 3, -1) -> BAD_ARGUMENT",
            "readTable(0, 0) -> MISSING_TABLE; createTable(0, 1, 2); writeTable(0, 1, 8); createTable(0, 1, -1) -> -14",
            "createTable(0, 5, 1) -> -2; readTable(0, 1) -> 8; undoCount() -> 0");
    }

    private static void writeAndRead() {
        RUNS.run("promises 44 and 45",
            "createTable(0, 1, 3); writeTable(0, 0, -2147483648) -> 1; writeTable(0, 2, 2147483647) -> 1",
            "readTable(0, 0) -> -2147483648; readTable(0, 1) -> 0; readTable(0, 2) -> 2147483647",
            "writeTable(0, 1, -13) -> 1; readTable(0, 1) -> -13; undoCount() -> 0");
        RUNS.run("promises 44 and 45, wrong",
            "createTable(1, 1, 2); writeTable(-1, 9, 1) -> BAD_ARGUMENT; writeTable(3, 0, 1) -> -2",
            "writeTable(0, 9, 1) -> MISSING_TABLE; writeTable(1, 2, 1) -> OUT_OF_BOUNDS; writeTable(1, -1, 1) -> -13",
            "writeTable(1, 2147483647, 1) -> -13; readTable(-1, 9) -> BAD_ARGUMENT; readTable(3, 0) -> -2",
            "readTable(2, 9) -> MISSING_TABLE; readTable(1, 2) -> OUT_OF_BOUNDS; readTable(1, -1) -> -13",
            "readTable(1, -2147483648) -> -13; readTable(1, 0) -> 0; readTable(1, 1) -> 0");
    }

    private static void elementTypes() {
        RUNS.run("promises 44 and 45, bytes",
            "createTable(0, 0, 5); writeTable(0, 0, 127); writeTable(0, 1, 128); writeTable(0, 2, 300)",
            "writeTable(0, 3, -1); writeTable(0, 4, 256) -> 1; readTable(0, 0) -> 127; readTable(0, 1) -> -128",
            "readTable(0, 2) -> 44; readTable(0, 3) -> -1; readTable(0, 4) -> 0");
        RUNS.run("promises 44 and 45, booleans",
            "createTable(2, 2, 4); writeTable(2, 0, 1); writeTable(2, 1, -1); writeTable(2, 2, 256) -> 1",
            "readTable(2, 0) -> 1; readTable(2, 1) -> 1; readTable(2, 2) -> 1; readTable(2, 3) -> 0",
            "writeTable(2, 1, 0) -> 1; readTable(2, 1) -> 0; createTable(0, 1, 1); readTable(2, 0) -> 1");
    }

    private static void exportCandidates() {
        String grid = "reset(2, 2, 3); keepOnly(0, 1, 3); eliminate(1, 0, 0);";
        RUNS.run("promise 46, bytes", grid,
            "createTable(0, 0, 5); writeTable(0, 4, 99); exportCandidates(0) -> 4; readTable(0, 0) -> 15",
            "readTable(0, 1) -> 8; readTable(0, 2) -> 14; readTable(0, 3) -> 15; readTable(0, 4) -> 99");
        RUNS.run("promise 46, ints", grid,
            "createTable(1, 1, 4); exportCandidates(1) -> 4; readTable(1, 1) -> 8; readTable(1, 3) -> 15",
            "keepOnly(1, 1, 0); readTable(1, 3) -> 15; exportCandidates(1); readTable(1, 3) -> 1; undoCount() -> 3");
        RUNS.run("promise 46, too short", grid,
            "createTable(1, 1, 3); exportCandidates(1) -> OUT_OF_BOUNDS; readTable(1, 0) -> 15; readTable(1, 1) -> 8",
            "readTable(1, 2) -> 14; createTable(1, 0, 0); exportCandidates(1) -> OUT_OF_BOUNDS");
        RUNS.run("promise 46, wrong",
            "exportCandidates(-1) -> BAD_ARGUMENT; exportCandidates(3) -> -2; exportCandidates(0) -> MISSING_TABLE",
            "createTable(0, 2, 2); exportCandidates(0) -> WRONG_TYPE; readTable(0, 0) -> 0; createTable(0, 2, 64)",
            "exportCandidates(0) -> WRONG_TYPE; reset(8, 8, 1); createTable(1, 0, 64); exportCandidates(1) -> 64");
    }

    private static void compareTable() {
        RUNS.run("promise 47",
            "reset(2, 2, 2); createTable(0, 2, 4); compareTable(0) -> EMPTY; keepOnly(0, 1, 0); compareTable(0) -> -8",
            "eliminate(1, 0, 0); compareTable(0) -> 2; writeTable(0, 2, 1); compareTable(0) -> EMPTY",
            "writeTable(0, 3, 1); compareTable(0) -> 3; writeTable(0, 1, 1); compareTable(0) -> 1",
            "writeTable(0, 0, 1); compareTable(0) -> 0; keepOnly(0, 0, 2); compareTable(0) -> 1");
        RUNS.run("promise 47, the length",
            "reset(2, 2, 1); createTable(0, 2, 3); compareTable(0) -> OUT_OF_BOUNDS; writeTable(0, 2, 1)",
            "compareTable(0) -> 2; createTable(0, 2, 0); compareTable(0) -> -13; createTable(0, 2, 6)",
            "writeTable(0, 5, 1); compareTable(0) -> EMPTY");
        RUNS.run("promise 47, wrong",
            "compareTable(-1) -> BAD_ARGUMENT; compareTable(3) -> -2; compareTable(1) -> MISSING_TABLE",
            "createTable(1, 1, 64); compareTable(1) -> WRONG_TYPE; createTable(1, 0, 0); compareTable(1) -> WRONG_TYPE",
            "reset(2, 2, 1); createTable(1, 2, 4); reset(2, 3, 1); compareTable(1) -> OUT_OF_BOUNDS",
            "reset(1, 4, 1); compareTable(1) -> EMPTY");
    }
}
