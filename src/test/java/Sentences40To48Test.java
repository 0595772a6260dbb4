/** Promises 40 to 48, sentence by sentence: earlier states, the snapshot and the tables. */
public final class Sentences40To48Test {
    private static final Sentences S = new Sentences();
    private static final String RICH = Sentences.RICH;
    /** Eight edits and one that is forgotten, which was the first. */
    private static final String NINE_EDITS = "reset(1, 2, 1); addRun(0, 1, 1); addRun(0, 2, 1); addRun(0, 3, 1);"
        + "keepOnly(0, 0, 1); addRun(1, 4, 1); addRun(1, 5, 1); eliminate(0, 1, 1); clearClue(0); addRun(0, 6, 1);";
    private static final String THREE_TABLES = RICH + "createTable(2, 2, 8); writeTable(2, 5, 1);";

    public static void main(String[] args) {
        undo();
        save();
        restore();
        createTable();
        writeTable();
        readTable();
        exportCandidates();
        compareTable();
        undoCount();
        S.end();
    }

    private static void undo() {
        S.section("Promise 40: undo");
        S.says("Undoes the latest edit that is not undone.");
        S.answers(RICH, "undo(); clues = 1a//1a/1a/2a/1a3b; cells = 77/77/77/72; undo(); cells = 77/77/77/77",
            "clues = 1a//1a/1a/2a/1a3b; undo(); clues = 1a//1a/1a/2a/1a; undo(); clues = 1a/1a/1a/1a/2a/1a");
        S.changes("cells, edits", RICH, "undo() -> 3");
        S.changes("clues, edits", RICH + "undo(); undo();", "undo() -> 1");
        S.answers(RICH, "undo() -> 3; undo() -> 2; keepOnly(0, 0, 2) -> 2; undoCount() -> 3; undo() -> 2",
            "cells = 77/77/77/77; undo() -> 1; clues = 1a//1a/1a/2a/1a");
        S.says("Returns the number of edits that can still be undone, or EMPTY if there is none to undo.");
        S.answers(RICH, "undo() -> 3; undo() -> 2; undo() -> 1; undo() -> 0; undo() -> EMPTY; undo() -> EMPTY");
        S.answers(NINE_EDITS, "undo() -> 7; undo() -> 6; undo() -> 5; undo() -> 4; undo() -> 3; undo() -> 2",
            "undo() -> 1; clues = 1a2a//; undo() -> 0; clues = 1a//; undo() -> EMPTY; clues = 1a//; cells = 33");
        S.refuses("", "undo() -> EMPTY");
        S.refuses(RICH + "4 x undo() -> 0;", "undo() -> EMPTY");
        S.refuses(NINE_EDITS + "8 x undo() -> 0;", "undo() -> EMPTY");
    }

    private static void save() {
        S.section("Promise 41: save");
        S.says("Saves a snapshot of R, C, K, all clues and all candidates.");
        S.changes("snapshot", RICH, "save() -> 1");
        S.changes("snapshot", "", "save() -> 0");
        S.answers(RICH, "save(); reset(2, 3, 3); addRun(0, 1, 1); keepOnly(0, 0, 1); restore() -> 1; rowCount() -> 4",
            "columnCount() -> 2; colorCount() -> 2; clues = 1a//1a/1a/2a/1a3b; cells = 77/76/77/72");
        S.answers("reset(8, 8, 3); 8 x addRun(15, 8, 3); keepOnly(7, 7, 3); save() -> 1; reset(1, 1, 1)",
            "restore() -> 1; rowCount() -> 8; runCount(15) -> 8; runColor(15, 7) -> 3; candidates(7, 7) -> 8",
            "candidates(7, 6) -> 15");
        S.says("An earlier snapshot is replaced.");
        S.answers(RICH, "save(); keepOnly(0, 0, 0); save() -> 2; reset(1, 1, 1); restore() -> 2; cells = 17/76/77/72",
            "reset(1, 1, 1); save() -> 0; reset(2, 2, 2); restore() -> 0; cells = 3");
        S.says("Returns the number of decided cells.");
        S.answers("save() -> 0; drawPicture(1); save() -> 25; clearCells(); save() -> 0; keepOnly(4, 4, 1)",
            "save() -> 1");
    }

    private static void restore() {
        S.section("Promise 42: restore");
        S.says("Restores the snapshot, which is kept, and forgets all earlier states.");
        S.answers(RICH, "restore() -> 1; rowCount() -> 1; columnCount() -> 2; colorCount() -> 3; clues = 2c//",
            "cells = f8; undoCount() -> 0; undo() -> EMPTY; keepOnly(0, 0, 3); addRun(0, 1, 1); clearClue(0)",
            "restore() -> 1; cells = f8; clues = 2c//; undo() -> EMPTY; reset(2, 2, 1); restore() -> 1; clues = 2c//",
            "cells = f8");
        S.changes("size, clues, cells, edits, contradiction", RICH, "restore() -> 1");
        S.changes("clues, cells, edits, contradiction", RICH + "save(); clearClue(0); keepOnly(2, 0, 1); solveLine(1);",
            "restore() -> 1");
        S.changes("edits, contradiction", RICH + "save();", "restore() -> 1");
        S.says("Returns the number of decided cells, or EMPTY if there is no snapshot.");
        S.answers("restore() -> EMPTY; save() -> 0; restore() -> 0; drawPicture(1); restore() -> 0; drawPicture(1)",
            "save(); clearCells(); restore() -> 25; restore() -> 25");
        S.refuses("", "restore() -> EMPTY");
        S.refuses("reset(2, 2, 2); addRun(0, 1, 2); addRun(1, 8, 1); keepOnly(0, 0, 0); solveLine(1) -> CONTRADICTION;",
            "restore() -> EMPTY");
    }

    private static void createTable() {
        S.section("Promise 43: createTable");
        S.says("Replaces a table by a new one that is filled with 0 or false.");
        S.answers("createTable(0, 0, 2); readTable(0, 0) -> 0; readTable(0, 1) -> 0; createTable(1, 1, 1)",
            "readTable(1, 0) -> 0; createTable(2, 2, 1); readTable(2, 0) -> 0; writeTable(2, 0, 5)",
            "createTable(2, 2, 1); readTable(2, 0) -> 0; writeTable(0, 1, 9); createTable(0, 1, 2)",
            "readTable(0, 1) -> 0; writeTable(0, 1, 9); createTable(0, 1, 1); createTable(0, 1, 2)",
            "readTable(0, 1) -> 0");
        S.changes("table 0", THREE_TABLES, "createTable(0, 0, 3) -> 1");
        S.changes("table 1", THREE_TABLES, "createTable(1, 2, 8) -> 1");
        S.changes("table 2", THREE_TABLES, "createTable(2, 1, 8) -> 1");
        S.says("- `table`: the number of the table, 0 to 2");
        S.answers("createTable(0, 1, 1) -> 1; createTable(2, 1, 1) -> 1; createTable(1, 1, 1) -> 1",
            "readTable(2, 0) -> 0");
        S.refuses(THREE_TABLES, "createTable(-1, 1, 1) -> BAD_ARGUMENT", "createTable(3, 1, 1) -> BAD_ARGUMENT",
            "createTable(2147483647, 1, 1) -> -2", "createTable(-2147483648, 1, 1) -> -2");
        S.says("- `type`: the element type, 0 to 2");
        S.answers("createTable(0, 0, 1) -> 1; writeTable(0, 0, 258); readTable(0, 0) -> 2; createTable(0, 1, 1) -> 1",
            "writeTable(0, 0, 258); readTable(0, 0) -> 258; createTable(0, 2, 1) -> 1; writeTable(0, 0, 258)",
            "readTable(0, 0) -> 1");
        S.refuses(THREE_TABLES, "createTable(0, -1, 1) -> BAD_ARGUMENT", "createTable(0, 3, 1) -> BAD_ARGUMENT",
            "createTable(0, 2147483647, 1) -> -2", "createTable(0, -2147483648, 1) -> -2");
        S.says("- `length`: the number of elements, at most 64");
        S.answers("createTable(0, 0, 64) -> 1; writeTable(0, 63, 7) -> 1; readTable(0, 63) -> 7",
            "readTable(0, 64) -> -13; createTable(0, 1, 64) -> 1; writeTable(0, 63, 700) -> 1",
            "createTable(0, 2, 64) -> 1; readTable(0, 63) -> 0; createTable(0, 0, 0) -> 1",
            "readTable(0, 0) -> OUT_OF_BOUNDS; createTable(0, 2, 1) -> 1; readTable(0, 0) -> 0",
            "readTable(0, 1) -> OUT_OF_BOUNDS");
        S.refuses(THREE_TABLES, "createTable(0, 0, 65) -> BAD_ARGUMENT", "createTable(1, 1, 65) -> BAD_ARGUMENT",
            "createTable(2, 2, 65) -> BAD_ARGUMENT", "createTable(0, 0, 2147483647) -> BAD_ARGUMENT");
        S.says("Returns 1; BAD_ARGUMENT if the table number or the type is out of range or the length is above 64 "
            + "(checked first);");
        S.refuses(THREE_TABLES, "createTable(3, 3, 65) -> BAD_ARGUMENT", "createTable(-1, 0, -1) -> BAD_ARGUMENT",
            "createTable(3, 0, -1) -> BAD_ARGUMENT", "createTable(0, -1, -1) -> BAD_ARGUMENT",
            "createTable(0, 3, -2147483648) -> BAD_ARGUMENT");
        S.says("NEGATIVE_LENGTH if the length is negative.");
        S.refuses(THREE_TABLES, "createTable(0, 0, -1) -> NEGATIVE_LENGTH", "createTable(2, 2, -1) -> NEGATIVE_LENGTH",
            "createTable(1, 1, -2147483648) -> NEGATIVE_LENGTH");
        S.refuses("", "createTable(0, 0, -1) -> NEGATIVE_LENGTH");
        S.answers("createTable(0, 0, -1) -> NEGATIVE_LENGTH; readTable(0, 0) -> MISSING_TABLE",
            "createTable(0, 0, 0) -> 1; readTable(0, 0) -> OUT_OF_BOUNDS");
    }

    /** What all methods with a table refuse in the state RICH, in which table 2 is missing. */
    private static void refusesTables(String name, String rest) {
        S.refuses(THREE_TABLES, name + "(-1" + rest + ") -> BAD_ARGUMENT", name + "(3" + rest + ") -> BAD_ARGUMENT",
            name + "(2147483647" + rest + ") -> BAD_ARGUMENT", name + "(-2147483648" + rest + ") -> BAD_ARGUMENT");
        S.refuses("", name + "(3" + rest + ") -> BAD_ARGUMENT");
    }

    private static void refusesMissing(String name, String rest) {
        S.refuses(RICH, name + "(2" + rest + ") -> MISSING_TABLE");
        S.refuses("", name + "(0" + rest + ") -> MISSING_TABLE", name + "(1" + rest + ") -> MISSING_TABLE");
    }

    private static void writeTable() {
        S.section("Promise 44: writeTable");
        S.says("Sets an element of a table.");
        S.answers(THREE_TABLES, "writeTable(1, 7, 5) -> 1; readTable(1, 7) -> 5; readTable(1, 3) -> 1000",
            "readTable(1, 6) -> 0");
        S.changes("table 0", THREE_TABLES, "writeTable(0, 0, 1) -> 1");
        S.changes("table 1", THREE_TABLES, "writeTable(1, 3, -1) -> 1");
        S.changes("table 2", THREE_TABLES, "writeTable(2, 5, 0) -> 1");
        S.answers("createTable(1, 1, 2); writeTable(1, 0, 2147483647); writeTable(1, 1, -2147483648)",
            "readTable(1, 0) -> 2147483647; readTable(1, 1) -> -2147483648");
        S.says("In a byte table the low-order 8 bits of the value are stored;");
        S.answers("createTable(0, 0, 1); writeTable(0, 0, 127); readTable(0, 0) -> 127; writeTable(0, 0, 128)",
            "readTable(0, 0) -> -128; writeTable(0, 0, 255); readTable(0, 0) -> -1; writeTable(0, 0, 256)",
            "readTable(0, 0) -> 0; writeTable(0, 0, -128); readTable(0, 0) -> -128; writeTable(0, 0, -129)",
            "readTable(0, 0) -> 127; writeTable(0, 0, 2147483647); readTable(0, 0) -> -1",
            "writeTable(0, 0, -2147483648); readTable(0, 0) -> 0; writeTable(0, 0, 12345); readTable(0, 0) -> 57");
        S.says("in a boolean table any value other than 0 is stored as true.");
        S.answers("createTable(0, 2, 1); writeTable(0, 0, 1); readTable(0, 0) -> 1; writeTable(0, 0, 0)",
            "readTable(0, 0) -> 0; writeTable(0, 0, -1); readTable(0, 0) -> 1; writeTable(0, 0, 0)",
            "writeTable(0, 0, 256); readTable(0, 0) -> 1; writeTable(0, 0, 0); writeTable(0, 0, -2147483648)",
            "readTable(0, 0) -> 1; writeTable(0, 0, 0); writeTable(0, 0, 2); readTable(0, 0) -> 1");
        S.says("- `table`: the number of the table");
        S.answers(THREE_TABLES, "writeTable(0, 2, 3) -> 1; writeTable(2, 2, 1) -> 1; readTable(0, 2) -> 3",
            "readTable(1, 2) -> 0; readTable(2, 2) -> 1");
        S.says("- `index`: the index");
        S.answers(THREE_TABLES, "writeTable(0, 0, 3) -> 1; writeTable(0, 2, 5) -> 1; readTable(0, 0) -> 3",
            "readTable(0, 1) -> -7; readTable(0, 2) -> 5");
        S.says("- `value`: the value");
        S.answers(THREE_TABLES, "writeTable(1, 0, -11) -> 1; readTable(1, 0) -> -11; writeTable(1, 0, -13) -> 1");
        S.says("Returns 1; BAD_ARGUMENT if the table number is out of range (checked first);");
        refusesTables("writeTable", ", 0, 1");
        refusesTables("writeTable", ", -1, 1");
        S.says("MISSING_TABLE (checked second);");
        refusesMissing("writeTable", ", 0, 1");
        refusesMissing("writeTable", ", -1, 1");
        refusesMissing("writeTable", ", 64, 1");
        S.says("OUT_OF_BOUNDS.");
        S.refuses(THREE_TABLES, "writeTable(0, -1, 1) -> OUT_OF_BOUNDS", "writeTable(0, 3, 1) -> OUT_OF_BOUNDS",
            "writeTable(1, 8, 1) -> OUT_OF_BOUNDS", "writeTable(2, 8, 1) -> OUT_OF_BOUNDS",
            "writeTable(1, 64, 1) -> -13", "writeTable(1, 2147483647, 1) -> -13",
            "writeTable(1, -2147483648, 1) -> -13");
        S.refuses("createTable(0, 0, 0);", "writeTable(0, 0, 1) -> OUT_OF_BOUNDS",
            "writeTable(0, -1, 1) -> OUT_OF_BOUNDS");
    }

    private static void readTable() {
        S.section("Promise 45: readTable");
        S.says("Returns an element of a table.");
        S.answers(THREE_TABLES, "readTable(0, 1) -> -7; readTable(1, 3) -> 1000; readTable(2, 5) -> 1",
            "readTable(2, 4) -> 0");
        S.keeps(THREE_TABLES, "readTable(1, 3) -> 1000");
        S.says("An element may have the same value as an error code.");
        S.answers("createTable(1, 1, 1); writeTable(1, 0, -13); readTable(1, 0) -> -13; writeTable(1, 0, -2)",
            "readTable(1, 0) -> -2; writeTable(1, 0, -11); readTable(1, 0) -> -11; createTable(0, 0, 1)",
            "writeTable(0, 0, 243); readTable(0, 0) -> -13");
        S.says("- `table`: the number of the table");
        S.answers(THREE_TABLES, "writeTable(0, 3, 1) -> -13; writeTable(1, 1, 11); readTable(0, 1) -> -7",
            "readTable(1, 1) -> 11; readTable(2, 1) -> 0");
        S.says("- `index`: the index");
        S.answers(THREE_TABLES, "readTable(1, 0) -> 0; writeTable(1, 7, 70); writeTable(1, 0, 10)",
            "readTable(1, 0) -> 10; readTable(1, 7) -> 70");
        S.says("Returns the element, 0 or 1 in a boolean table;");
        S.answers(THREE_TABLES, "readTable(2, 5) -> 1; readTable(2, 6) -> 0; writeTable(2, 6, 77)",
            "readTable(2, 6) -> 1");
        S.says("BAD_ARGUMENT if the table number is out of range (checked first);");
        refusesTables("readTable", ", 0");
        refusesTables("readTable", ", -1");
        S.says("MISSING_TABLE (checked second);");
        refusesMissing("readTable", ", 0");
        refusesMissing("readTable", ", -1");
        refusesMissing("readTable", ", 64");
        S.says("OUT_OF_BOUNDS.");
        S.refuses(THREE_TABLES, "readTable(0, -1) -> OUT_OF_BOUNDS", "readTable(0, 3) -> OUT_OF_BOUNDS",
            "readTable(1, 8) -> OUT_OF_BOUNDS", "readTable(2, 8) -> OUT_OF_BOUNDS", "readTable(1, 64) -> OUT_OF_BOUNDS",
            "readTable(1, 2147483647) -> OUT_OF_BOUNDS", "readTable(1, -2147483648) -> OUT_OF_BOUNDS");
        S.refuses("createTable(0, 0, 0);", "readTable(0, 0) -> OUT_OF_BOUNDS", "readTable(0, -1) -> OUT_OF_BOUNDS");
    }

    private static void exportCandidates() {
        S.section("Promise 46: exportCandidates");
        S.says("Copies the candidates of all cells to a byte table or an int table, in row order, from index 0 on.");
        S.answers(RICH, "exportCandidates(1) -> 8; readTable(1, 0) -> 7; readTable(1, 1) -> 7; readTable(1, 2) -> 7",
            "readTable(1, 3) -> 6; readTable(1, 4) -> 7; readTable(1, 5) -> 7; readTable(1, 6) -> 7",
            "readTable(1, 7) -> 2; createTable(2, 0, 8); exportCandidates(2) -> 8; readTable(2, 0) -> 7",
            "readTable(2, 3) -> 6; readTable(2, 7) -> 2");
        S.changes("table 1", THREE_TABLES, "exportCandidates(1) -> 8");
        S.changes("table 0", THREE_TABLES + "createTable(0, 0, 16);", "exportCandidates(0) -> 8");
        S.answers("reset(8, 8, 3); keepOnly(7, 7, 3); keepOnly(0, 7, 0); createTable(0, 0, 64)",
            "exportCandidates(0) -> 64; readTable(0, 0) -> 15; readTable(0, 7) -> 1; readTable(0, 56) -> 15",
            "readTable(0, 63) -> 8");
        S.says("Further elements stay.");
        S.answers("reset(1, 2, 1); createTable(0, 0, 4); writeTable(0, 2, 55); writeTable(0, 3, -1)",
            "exportCandidates(0) -> 2; readTable(0, 1) -> 3; readTable(0, 2) -> 55; readTable(0, 3) -> -1",
            "createTable(1, 1, 3); writeTable(1, 2, 99); exportCandidates(1) -> 2; readTable(1, 1) -> 3",
            "readTable(1, 2) -> 99");
        S.says("- `table`: the number of the table");
        S.answers("reset(1, 1, 1); createTable(0, 1, 1); createTable(1, 1, 1); createTable(2, 1, 1)",
            "exportCandidates(2) -> 1; readTable(0, 0) -> 0; readTable(1, 0) -> 0; readTable(2, 0) -> 3",
            "exportCandidates(0) -> 1; readTable(0, 0) -> 3");
        S.says("Returns the number of cells;");
        S.answers("createTable(0, 0, 64); exportCandidates(0) -> 25; reset(1, 1, 1); exportCandidates(0) -> 1",
            "reset(3, 7, 1); exportCandidates(0) -> 21");
        S.says("BAD_ARGUMENT if the table number is out of range (checked first);");
        refusesTables("exportCandidates", "");
        S.says("MISSING_TABLE (checked second);");
        refusesMissing("exportCandidates", "");
        S.says("WRONG_TYPE if it is a boolean table (checked third);");
        S.refuses(THREE_TABLES, "exportCandidates(2) -> WRONG_TYPE");
        S.refuses(THREE_TABLES + "createTable(2, 2, 7);", "exportCandidates(2) -> WRONG_TYPE");
        S.refuses(THREE_TABLES + "createTable(2, 2, 0);", "exportCandidates(2) -> WRONG_TYPE");
        S.says("OUT_OF_BOUNDS if it has fewer elements than there are cells, in which case the elements that exist are "
            + "set all the same.");
        S.answers(RICH, "createTable(1, 1, 7); exportCandidates(1) -> OUT_OF_BOUNDS; readTable(1, 0) -> 7",
            "readTable(1, 3) -> 6; readTable(1, 6) -> 7; createTable(1, 1, 8); exportCandidates(1) -> 8",
            "createTable(2, 0, 1); exportCandidates(2) -> OUT_OF_BOUNDS; readTable(2, 0) -> 7; createTable(2, 0, 0)",
            "exportCandidates(2) -> -13");
        S.changes("table 0", THREE_TABLES, "exportCandidates(0) -> OUT_OF_BOUNDS");
        S.refuses(RICH + "createTable(2, 0, 0);", "exportCandidates(2) -> OUT_OF_BOUNDS");
    }

    private static void compareTable() {
        S.section("Promise 47: compareTable");
        S.says("Compares a boolean table with the grid, element 0 with the first cell in row order, and so on, up to "
            + "the first cell that does not agree.");
        S.answers("reset(2, 2, 1); createTable(0, 2, 4); keepOnly(0, 1, 1); compareTable(0) -> 1; keepOnly(1, 0, 1)",
            "compareTable(0) -> 1; writeTable(0, 1, 1); compareTable(0) -> 2; writeTable(0, 2, 1)",
            "compareTable(0) -> EMPTY; writeTable(0, 3, 1); compareTable(0) -> 3; writeTable(0, 0, 1)",
            "compareTable(0) -> 0");
        S.keeps(THREE_TABLES, "compareTable(2) -> 3");
        S.says("An element agrees with its cell if it is true and white is not a candidate of the cell, or if it is "
            + "false and white is a candidate.");
        S.answers("reset(1, 1, 2); createTable(0, 2, 1); compareTable(0) -> EMPTY; writeTable(0, 0, 1)",
            "compareTable(0) -> 0; eliminate(0, 0, 0); compareTable(0) -> EMPTY; writeTable(0, 0, 0)",
            "compareTable(0) -> 0; keepOnly(0, 0, 2); compareTable(0) -> 0; writeTable(0, 0, 1)",
            "compareTable(0) -> EMPTY; clearCells(); keepOnly(0, 0, 0); compareTable(0) -> 0; writeTable(0, 0, 0)",
            "compareTable(0) -> EMPTY");
        S.says("- `table`: the number of the table");
        S.answers("reset(1, 1, 1); createTable(0, 2, 1); createTable(2, 2, 1); writeTable(0, 0, 1)",
            "compareTable(0) -> 0; compareTable(2) -> EMPTY; createTable(1, 2, 1); writeTable(1, 0, 1)",
            "compareTable(1) -> 0");
        S.says("Returns the number of the first cell that does not agree, counted from 0;");
        S.answers("reset(8, 8, 1); createTable(0, 2, 64); writeTable(0, 63, 1); compareTable(0) -> 63",
            "writeTable(0, 8, 1); compareTable(0) -> 8; writeTable(0, 0, 1); compareTable(0) -> 0");
        S.says("EMPTY if all cells agree;");
        S.answers("reset(8, 8, 1); createTable(0, 2, 64); compareTable(0) -> EMPTY; drawPicture(0)",
            "compareTable(0) -> 3");
        S.keeps(THREE_TABLES + "writeTable(2, 5, 0); writeTable(2, 3, 1); writeTable(2, 7, 1);",
            "compareTable(2) -> EMPTY");
        S.says("BAD_ARGUMENT if the table number is out of range (checked first);");
        refusesTables("compareTable", "");
        S.says("MISSING_TABLE (checked second);");
        refusesMissing("compareTable", "");
        S.says("WRONG_TYPE if it is not a boolean table (checked third);");
        S.refuses(THREE_TABLES, "compareTable(0) -> WRONG_TYPE", "compareTable(1) -> WRONG_TYPE");
        S.refuses(THREE_TABLES + "createTable(0, 0, 0); createTable(1, 1, 0);", "compareTable(0) -> WRONG_TYPE",
            "compareTable(1) -> WRONG_TYPE");
        S.says("OUT_OF_BOUNDS if the table ends before that.");
        S.answers("reset(1, 3, 1); createTable(0, 2, 2); compareTable(0) -> OUT_OF_BOUNDS; writeTable(0, 1, 1)",
            "compareTable(0) -> 1; writeTable(0, 1, 0); keepOnly(0, 2, 1); compareTable(0) -> OUT_OF_BOUNDS",
            "createTable(0, 2, 3); compareTable(0) -> 2; writeTable(0, 2, 1); compareTable(0) -> EMPTY");
        S.refuses(THREE_TABLES + "createTable(2, 2, 3);", "compareTable(2) -> OUT_OF_BOUNDS");
        S.refuses(THREE_TABLES + "createTable(2, 2, 0);", "compareTable(2) -> OUT_OF_BOUNDS");
    }

    private static void undoCount() {
        S.section("Promise 48: undoCount");
        S.says("Returns the number of edits that can be undone.");
        S.answers(RICH, "undoCount() -> 4; undo(); undoCount() -> 3; eliminate(0, 0, 0); undoCount() -> 4; 4 x undo()",
            "undoCount() -> 0; undo() -> EMPTY; undoCount() -> 0");
        S.keeps(RICH, "undoCount() -> 4");
        S.says("Returns the number, 0 to 8.");
        S.answers("undoCount() -> 0; addRun(0, 1, 1); undoCount() -> 1; 6 x addRun(0, 1, 1); undoCount() -> 7",
            "clearClue(0); undoCount() -> 8; clearClue(0); undoCount() -> 8; 20 x clearClue(0); undoCount() -> 8",
            "undo(); undoCount() -> 7; clearClue(0); undoCount() -> 8; 8 x undo() -> 0; undoCount() -> 0");
    }
}
