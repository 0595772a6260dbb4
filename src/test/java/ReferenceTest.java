import java.util.ArrayList;
import java.util.List;
import java.util.Random;

/** Makes the same pseudo-random calls on the program and on the plain model and compares all answers. */
public final class ReferenceTest {
    private static final int RUNS_OF_EVERY_KIND = 400;
    private static final int MOST_CALLS = 512;

    private final Random random;
    private final NonogramSolver solver = new NonogramSolver();
    private final PlainModel model = new PlainModel();
    private final List<String> calls = new ArrayList<>();
    private final int most;
    private boolean isWrong = false;

    private ReferenceTest(int seed, int most) {
        this.random = new Random(seed);
        this.most = most;
    }

    public static void main(String[] args) {
        Runs runs = new Runs();
        int total = 0;
        // The seed is the number of the run, so every run can be repeated.
        int first = args.length > 0 ? Integer.parseInt(args[0]) : 0;
        int count = args.length > 1 ? Integer.parseInt(args[1]) : RUNS_OF_EVERY_KIND;
        for (int seed = first; seed < first + count; seed++) {
            for (int side : new int[] {3, 5, 8}) {
                ReferenceTest mixed = new ReferenceTest(seed, side);
                mixed.makeMixedRun();
                runs.holds("the mixed run with seed " + seed + " and sides up to " + side, !mixed.isWrong);
                ReferenceTest hard = new ReferenceTest(seed, side);
                hard.makeHardRun();
                runs.holds("the hard run with seed " + seed + " and sides up to " + side, !hard.isWrong);
                total += mixed.calls.size() + hard.calls.size();
            }
        }
        System.out.println(total + " calls were compared");
        runs.end();
    }

    private void makeMixedRun() {
        int length = 20 + random.nextInt(150);
        resetGrid();
        if (upTo(1) == 0) {
            compare("createTable", 0, upTo(2), upTo(20));
            compare("createTable", 1, 2, upTo(64));
        }
        while (calls.size() < length && calls.size() < MOST_CALLS - 300 && !isWrong) {
            makeSomething();
        }
        compareStates();
    }

    /** Clues of a few scattered runs have many solutions; a moved run often leaves none, which only a search finds. */
    private void makeHardRun() {
        int rows = 2 + upTo(most - 2);
        int columns = 2 + upTo(most - 2);
        int colors = 1 + upTo(2);
        compare("reset", rows, columns, colors);
        int[][] picture = new int[rows][columns];
        for (int[] row : picture) {
            for (int dots = upTo(3); dots > 0; dots--) {
                row[upTo(columns - 1)] = 1 + upTo(colors - 1);
            }
        }
        for (int row = 0; row < rows; row++) {
            addRuns(row, picture[row]);
        }
        for (int column = 0; column < columns; column++) {
            int[] cells = new int[rows];
            for (int row = 0; row < rows; row++) {
                cells[row] = picture[row][column];
            }
            addRuns(rows + column, cells);
        }
        compare("save");
        for (int change = 0; change < 3; change++) {
            lookAtSolutions();
            compare("probeAll");
            compare("contradictionLine");
            compare("contradictionDepth");
            lookAtSolutions();
            compare("restore");
            if (upTo(1) == 0) {
                compare("eliminate", row(), column(), 0);
            } else {
                moveRun();
            }
        }
        compareStates();
    }

    private void addRuns(int line, int[] cells) {
        int length = 0;
        for (int i = 0; i < cells.length; i++) {
            length++;
            if (i + 1 == cells.length || cells[i + 1] != cells[i]) {
                if (cells[i] != 0) {
                    compare("addRun", line, length, cells[i]);
                }
                length = 0;
            }
        }
    }

    private void moveRun() {
        int from = upTo(model.rowCount() - 1);
        int length = model.runLength(from, 0);
        int color = model.runColor(from, 0);
        if (length > 0) {
            compare("clearClue", from);
            compare("addRun", upTo(model.rowCount() - 1), length, color);
        }
    }

    private void lookAtSolutions() {
        compare("setRule", upTo(2));
        compare("searchNodes", 1 + upTo(19));
        compare("countSolutions", 1 + upTo(19));
        compare("isUnique");
        int solution = upTo(7);
        for (int look = 0; look < 3; look++) {
            compare("solutionColor", solution, upTo(model.rowCount() - 1), upTo(model.columnCount() - 1));
            compare("probe", row(), column(), anyColor());
        }
        compare("passCount");
    }

    private void compare(String name, int... arguments) {
        if (isWrong) {
            return;
        }
        Object[] boxed = new Object[arguments.length];
        StringBuilder call = new StringBuilder(name).append('(');
        for (int i = 0; i < arguments.length; i++) {
            boxed[i] = arguments[i];
            call.append(i > 0 ? ", " : "").append(arguments[i]);
        }
        int want = Runs.call(model, name, boxed);
        int got = Runs.call(solver, name, boxed);
        calls.add(call.append(") -> ").append(want).toString());
        if (got != want) {
            isWrong = true;
            System.out.println(String.join("; ", calls) + " but answered " + got);
        }
    }

    private void compareStates() {
        compare("rowCount");
        compare("columnCount");
        compare("colorCount");
        compare("undoCount");
        compare("contradictionLine");
        compare("contradictionDepth");
        int length = model.formatClues();
        compare("formatClues");
        for (int position = -1; position <= Math.min(length, 60); position++) {
            compare("formattedCharacter", position);
        }
        for (int row = 0; row < model.rowCount(); row++) {
            for (int column = 0; column < model.columnCount(); column++) {
                compare("candidates", row, column);
            }
        }
    }

    private int upTo(int greatest) {
        return random.nextInt(greatest + 1);
    }

    /** Mostly an index from 0 on, and sometimes one that is out of range. */
    private int index(int count) {
        return random.nextInt(12) == 0 ? wild(count) : random.nextInt(Math.max(count, 1));
    }

    private int wild(int count) {
        int[] values = {-1, count, count + 1, Integer.MIN_VALUE, Integer.MAX_VALUE, 100, -100, 0};
        return values[random.nextInt(values.length)];
    }

    private int row() {
        return index(model.rowCount());
    }

    private int column() {
        return index(model.columnCount());
    }

    private int line() {
        return index(model.rowCount() + model.columnCount());
    }

    private int anyColor() {
        return index(model.colorCount() + 1);
    }

    private void resetGrid() {
        compare("reset", 1 + upTo(most - 1), 1 + upTo(most - 1), 1 + upTo(2));
    }

    /** Makes a puzzle that has a solution, as wrong clues soon end in a contradiction. */
    private void makePuzzle() {
        compare("drawPicture", random.nextInt());
        compare("clearCells");
        if (upTo(2) == 0) {
            spoilClue();
        }
        if (upTo(3) > 0) {
            compare("propagate");
        }
    }

    private void spoilClue() {
        if (upTo(1) == 0) {
            compare("clearClue", line());
        }
        compare("addRun", line(), 1 + upTo(2), 1 + upTo(model.colorCount() - 1));
    }

    /** A text that is mostly of the due form. */
    private void writeText() {
        StringBuilder text = new StringBuilder();
        int lines = model.rowCount() + model.columnCount();
        for (int line = 0; line < lines; line++) {
            for (int run = upTo(3) * upTo(1); run > 0; run--) {
                text.append(1 + upTo(2)).append((char) ('a' + upTo(model.colorCount() - 1)));
            }
            text.append(line + 1 < lines ? "/" : "");
        }
        int spoilt = random.nextInt(text.length() * 3);
        if (spoilt < text.length()) {
            text.setCharAt(spoilt, "0189abcd/ `/".charAt(upTo(11)));
        } else if (upTo(6) == 0) {
            text.append("/1a2bc".charAt(upTo(5)));
        }
        for (char character : text.toString().toCharArray()) {
            compare("appendText", character);
        }
        compare("parseClues");
    }

    private void useTables() {
        int table = upTo(8) == 0 ? wild(3) : upTo(2);
        switch (upTo(5)) {
            case 0 -> compare("createTable", table, upTo(8) == 0 ? wild(3) : upTo(2),
                upTo(5) == 0 ? wild(65) : upTo(64));
            case 1 -> compare("writeTable", table, index(20), upTo(1) == 0 ? upTo(1) : random.nextInt());
            case 2 -> compare("readTable", table, index(20));
            case 3 -> compare("exportCandidates", table);
            default -> compare("compareTable", table);
        }
    }

    private void makeSomething() {
        switch (upTo(20)) {
            case 0 -> makePuzzle();
            case 1 -> spoilClue();
            case 2 -> compare("keepOnly", row(), column(), anyColor());
            case 3 -> compare("eliminate", row(), column(), anyColor());
            case 4 -> compare("solveLine", line());
            case 5 -> compare(upTo(1) == 0 ? "propagate" : "passCount");
            case 6 -> compare("probe", row(), column(), anyColor());
            case 7 -> compare("probeAll");
            case 8 -> {
                compare("contradictionLine");
                compare("contradictionDepth");
            }
            case 9 -> compare("setRule", index(3));
            case 10 -> compare("countSolutions", upTo(4) == 0 ? wild(21) : 1 + upTo(19));
            case 11 -> compare("searchNodes", upTo(4) == 0 ? wild(21) : 1 + upTo(19));
            case 12 -> compare("solutionColor", upTo(4) == 0 ? wild(20) : upTo(4), row(), column());
            case 13 -> compare(upTo(1) == 0 ? "isUnique" : "firstMismatch");
            case 14 -> compare(upTo(1) == 0 ? "takeClues" : "decidedCount");
            case 15 -> compare("undo");
            case 16 -> compare(upTo(2) == 0 ? "restore" : "save");
            case 17 -> useTables();
            case 18 -> lookAtLine();
            case 19 -> {
                if (upTo(5) == 0) {
                    writeText();
                } else {
                    compare("color", row(), column());
                }
            }
            default -> {
                if (upTo(9) == 0) {
                    resetGrid();
                } else {
                    compare("undoCount");
                }
            }
        }
    }

    private void lookAtLine() {
        int line = line();
        compare("assignmentCount", line);
        compare("assignmentColor", line, index(Math.max(1, model.assignmentCount(line))), index(most));
        compare("averageCandidates", line);
        compare("minimumLength", line);
        compare("runCount", line);
        compare("runLength", line, index(3));
        compare("runColor", line, index(3));
    }
}
