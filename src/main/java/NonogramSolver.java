import java.util.Arrays;

/**
 * A solver for colored nonograms: complete line solving, constraint propagation, probing, backtracking search with
 * uniqueness tests, and making clues from a picture.
 *
 * <p>All arrays are made in the constructor and used again, so no call makes objects.
 */
public final class NonogramSolver {
    public static final int NO_SUCH_INDEX = -1;
    public static final int BAD_ARGUMENT = -2;
    public static final int FULL = -3;
    public static final int CONTRADICTION = -4;
    public static final int NOT_POSSIBLE = -5;
    public static final int UNDECIDED = -6;
    public static final int SEARCH_LIMIT = -7;
    public static final int EMPTY = -8;
    public static final int MISSING_TABLE = -11;
    public static final int WRONG_TYPE = -12;
    public static final int OUT_OF_BOUNDS = -13;
    public static final int NEGATIVE_LENGTH = -14;

    private static final int FIRST_SIDE = 5;
    private static final int MAX_SIDE = 8;
    private static final int MAX_CELLS = MAX_SIDE * MAX_SIDE;
    private static final int MAX_LINES = MAX_SIDE + MAX_SIDE;
    private static final int WHITE = 0;
    private static final int MAX_COLORS = 3;
    private static final int MAX_RUNS = 8;
    private static final int MAX_RUN_LENGTH = 8;
    // A cell keeps one candidate, so no more than this many can ever be removed from a grid.
    private static final int MAX_REMOVALS = MAX_CELLS * MAX_COLORS;
    private static final int MAX_EDITS = 8;
    private static final int MAX_NODES = 60;
    private static final int MAX_SOLUTIONS = 20;
    private static final int LAST_RULE = 2;
    private static final int FIRST_CHARACTER = 32;
    private static final int LAST_CHARACTER = 126;
    private static final int TEXT_CAPACITY = 120;
    // Two characters for every run, and a slash behind every line but the last.
    private static final int FORMATTED_CAPACITY = MAX_LINES * MAX_RUNS * 2 + MAX_LINES - 1;
    private static final int PARSE_ERROR = -100;
    private static final int TABLES = 3;
    private static final int TABLE_CAPACITY = 64;
    private static final int NO_TYPE = -1;
    private static final int BYTE_TYPE = 0;
    private static final int BOOLEAN_TYPE = 2;

    private final Grid grid = new Grid();
    private final Grid work = new Grid();
    private final Grid snapshot = new Grid();
    private boolean hasSnapshot = false;
    private final History history = new History();
    private final LineSolver lineSolver = new LineSolver();
    private final Propagator propagator = new Propagator();
    private final Prober prober = new Prober();
    private final Search search = new Search();
    private int rule = 0;
    // Both are EMPTY while no contradiction is remembered.
    private int rememberedLine = EMPTY;
    private int rememberedDepth = EMPTY;
    private final Text text = new Text(TEXT_CAPACITY);
    private final Text formatted = new Text(FORMATTED_CAPACITY);
    private final Clues parsedClues = new Clues();
    private final Table[] tables = {new Table(), new Table(), new Table()};

    public NonogramSolver() {
        grid.start(FIRST_SIDE, FIRST_SIDE, 1);
    }

    public int reset(int rows, int columns, int colors) {
        if (!isWithin(rows, 1, MAX_SIDE) || !isWithin(columns, 1, MAX_SIDE) || !isWithin(colors, 1, MAX_COLORS)) {
            return BAD_ARGUMENT;
        }
        grid.start(rows, columns, colors);
        history.forget();
        forgetContradiction();
        return grid.lineTotal();
    }

    public int rowCount() {
        return grid.rows;
    }

    public int columnCount() {
        return grid.columns;
    }

    public int colorCount() {
        return grid.colors;
    }

    public int addRun(int line, int length, int color) {
        if (!grid.hasLine(line)) {
            return NO_SUCH_INDEX;
        }
        if (!isWithin(length, 1, MAX_RUN_LENGTH) || !isWithin(color, 1, grid.colors)) {
            return BAD_ARGUMENT;
        }
        if (grid.clues.isFull(line)) {
            return FULL;
        }
        history.push(grid);
        grid.clues.append(line, length, color);
        return grid.clues.runsOf(line);
    }

    public int clearClue(int line) {
        if (!grid.hasLine(line)) {
            return NO_SUCH_INDEX;
        }
        int runs = grid.clues.runsOf(line);
        history.push(grid);
        grid.clues.empty(line);
        return runs;
    }

    public int runCount(int line) {
        return grid.hasLine(line) ? grid.clues.runsOf(line) : NO_SUCH_INDEX;
    }

    public int runLength(int line, int run) {
        return hasRun(line, run) ? grid.clues.lengthOf(line, run) : NO_SUCH_INDEX;
    }

    public int runColor(int line, int run) {
        return hasRun(line, run) ? grid.clues.colorOf(line, run) : NO_SUCH_INDEX;
    }

    public int minimumLength(int line) {
        return grid.hasLine(line) ? grid.clues.cellsNeeded(line) : NO_SUCH_INDEX;
    }

    public int candidates(int row, int column) {
        return grid.hasCell(row, column) ? grid.cells[grid.cellAt(row, column)] : NO_SUCH_INDEX;
    }

    public int color(int row, int column) {
        if (!grid.hasCell(row, column)) {
            return NO_SUCH_INDEX;
        }
        int cell = grid.cellAt(row, column);
        return grid.isDecided(cell) ? grid.decidedColor(cell) : UNDECIDED;
    }

    public int keepOnly(int row, int column, int color) {
        int error = candidateError(row, column, color);
        if (error != 0) {
            return error;
        }
        int cell = grid.cellAt(row, column);
        int removed = Integer.bitCount(grid.cells[cell]) - 1;
        history.push(grid);
        grid.cells[cell] = 1 << color;
        return removed;
    }

    public int eliminate(int row, int column, int color) {
        int error = otherCandidatesError(row, column, color);
        if (error != 0) {
            return error;
        }
        int cell = grid.cellAt(row, column);
        history.push(grid);
        grid.cells[cell] &= ~(1 << color);
        return Integer.bitCount(grid.cells[cell]);
    }

    public int decidedCount() {
        return grid.decidedTotal();
    }

    public int averageCandidates(int line) {
        if (!grid.hasLine(line)) {
            return NO_SUCH_INDEX;
        }
        int undecided = 0;
        int sum = 0;
        for (int position = 0; position < grid.lineLength(line); position++) {
            int cell = grid.lineCell(line, position);
            if (!grid.isDecided(cell)) {
                undecided++;
                sum += Integer.bitCount(grid.cells[cell]);
            }
        }
        return undecided == 0 ? EMPTY : sum * 100 / undecided;
    }

    public int assignmentCount(int line) {
        if (!grid.hasLine(line)) {
            return NO_SUCH_INDEX;
        }
        lineSolver.load(grid, line);
        return lineSolver.total();
    }

    public int assignmentColor(int line, int assignment, int position) {
        if (!grid.hasLine(line) || !isWithin(position, 0, grid.lineLength(line) - 1)) {
            return NO_SUCH_INDEX;
        }
        lineSolver.load(grid, line);
        if (!isWithin(assignment, 0, lineSolver.total() - 1)) {
            return NO_SUCH_INDEX;
        }
        return lineSolver.colorIn(assignment, position);
    }

    public int solveLine(int line) {
        if (!grid.hasLine(line)) {
            return NO_SUCH_INDEX;
        }
        work.copyFrom(grid);
        if (!lineSolver.solve(work, line)) {
            return remember(line, 0);
        }
        commitWork();
        return lineSolver.removed;
    }

    public int propagate() {
        work.copyFrom(grid);
        if (!propagator.settle(work, work.allLines())) {
            return remember(propagator.failedLine, 0);
        }
        commitWork();
        return propagator.removed;
    }

    public int passCount() {
        work.copyFrom(grid);
        return propagator.settle(work, work.allLines()) ? propagator.passes : CONTRADICTION;
    }

    public int probe(int row, int column, int color) {
        int error = otherCandidatesError(row, column, color);
        if (error != 0) {
            return error;
        }
        work.copyFrom(grid);
        work.cells[work.cellAt(row, column)] = 1 << color;
        return propagator.settle(work, work.allLines()) ? 0 : 1;
    }

    public int probeAll() {
        work.copyFrom(grid);
        boolean isSound = prober.begin(work);
        boolean isFinished = false;
        for (int round = 0; isSound && !isFinished && round <= MAX_REMOVALS; round++) {
            int before = prober.failedProbes;
            isSound = prober.probeRound(work);
            isFinished = prober.failedProbes == before;
        }
        if (!isSound) {
            return remember(prober.failedLine, prober.failedProbes);
        }
        commitWork();
        return prober.failedProbes;
    }

    public int contradictionLine() {
        return rememberedLine;
    }

    public int contradictionDepth() {
        return rememberedDepth;
    }

    public int setRule(int rule) {
        if (!isWithin(rule, 0, LAST_RULE)) {
            return BAD_ARGUMENT;
        }
        int previous = this.rule;
        this.rule = rule;
        return previous;
    }

    public int countSolutions(int limit) {
        if (!isWithin(limit, 1, MAX_SOLUTIONS)) {
            return BAD_ARGUMENT;
        }
        search.find(grid, rule, limit);
        return search.failed ? SEARCH_LIMIT : search.found;
    }

    public int solutionColor(int solution, int row, int column) {
        if (!isWithin(solution, 0, MAX_SOLUTIONS - 1)) {
            return BAD_ARGUMENT;
        }
        if (!grid.hasCell(row, column)) {
            return NO_SUCH_INDEX;
        }
        search.find(grid, rule, solution + 1);
        if (search.failed) {
            return SEARCH_LIMIT;
        }
        return search.found > solution ? search.lastSolutionColor(grid.cellAt(row, column)) : EMPTY;
    }

    public int searchNodes(int limit) {
        if (!isWithin(limit, 1, MAX_SOLUTIONS)) {
            return BAD_ARGUMENT;
        }
        search.find(grid, rule, limit);
        return search.failed ? SEARCH_LIMIT : search.nodes;
    }

    public int isUnique() {
        search.find(grid, rule, 2);
        if (search.failed) {
            return SEARCH_LIMIT;
        }
        return search.found == 1 ? 1 : 0;
    }

    public int firstMismatch() {
        if (!grid.isAllDecided()) {
            return UNDECIDED;
        }
        for (int line = 0; line < grid.lineTotal(); line++) {
            lineSolver.load(grid, line);
            if (lineSolver.total() == 0) {
                return line;
            }
        }
        return EMPTY;
    }

    public int takeClues() {
        if (!grid.isAllDecided()) {
            return UNDECIDED;
        }
        history.push(grid);
        grid.describePicture();
        return grid.clues.runTotal();
    }

    public int drawPicture(int seed) {
        int choices = grid.colors + 1;
        int state = seed;
        int colored = 0;
        for (int cell = 0; cell < grid.cellTotal(); cell++) {
            state = state * 1103515245 + 12345;
            int color = choices > 0 ? (state >>> 16) % choices : WHITE;
            grid.cells[cell] = 1 << color;
            if (color != WHITE) {
                colored++;
            }
        }
        grid.describePicture();
        history.forget();
        return colored;
    }

    public int clearCells() {
        int decided = grid.decidedTotal();
        grid.fillCandidates();
        history.forget();
        return decided;
    }

    public int appendText(int character) {
        if (!isWithin(character, FIRST_CHARACTER, LAST_CHARACTER)) {
            return BAD_ARGUMENT;
        }
        return text.append(character) ? text.length : FULL;
    }

    public int parseClues() {
        int answer = parseText();
        text.clear();
        if (answer >= 0) {
            history.push(grid);
            grid.clues.copyFrom(parsedClues);
        }
        return answer;
    }

    public int formatClues() {
        formatted.clear();
        for (int line = 0; line < grid.lineTotal(); line++) {
            if (line > 0) {
                formatted.append('/');
            }
            for (int run = 0; run < grid.clues.runsOf(line); run++) {
                formatted.append('0' + grid.clues.lengthOf(line, run));
                formatted.append('a' + grid.clues.colorOf(line, run) - 1);
            }
        }
        return formatted.length;
    }

    public int formattedCharacter(int position) {
        return isWithin(position, 0, formatted.length - 1) ? formatted.characters[position] : NO_SUCH_INDEX;
    }

    public int undo() {
        return history.pop(grid) ? history.count : EMPTY;
    }

    public int save() {
        snapshot.copyFrom(grid);
        hasSnapshot = true;
        return grid.decidedTotal();
    }

    public int restore() {
        if (!hasSnapshot) {
            return EMPTY;
        }
        grid.copyFrom(snapshot);
        history.forget();
        forgetContradiction();
        return grid.decidedTotal();
    }

    public int createTable(int table, int type, int length) {
        if (!hasTable(table) || !isWithin(type, BYTE_TYPE, BOOLEAN_TYPE) || length > TABLE_CAPACITY) {
            return BAD_ARGUMENT;
        }
        if (length < 0) {
            return NEGATIVE_LENGTH;
        }
        tables[table].start(type, length);
        return 1;
    }

    public int writeTable(int table, int index, int value) {
        int error = elementError(table, index);
        if (error != 0) {
            return error;
        }
        tables[table].store(index, value);
        return 1;
    }

    public int readTable(int table, int index) {
        int error = elementError(table, index);
        return error != 0 ? error : tables[table].elements[index];
    }

    public int exportCandidates(int table) {
        int error = tableError(table);
        if (error != 0) {
            return error;
        }
        Table target = tables[table];
        if (target.type == BOOLEAN_TYPE) {
            return WRONG_TYPE;
        }
        int cells = grid.cellTotal();
        for (int cell = 0; cell < Math.min(cells, target.length); cell++) {
            target.store(cell, grid.cells[cell]);
        }
        return target.length < cells ? OUT_OF_BOUNDS : cells;
    }

    public int compareTable(int table) {
        int error = tableError(table);
        if (error != 0) {
            return error;
        }
        Table other = tables[table];
        if (other.type != BOOLEAN_TYPE) {
            return WRONG_TYPE;
        }
        for (int cell = 0; cell < grid.cellTotal(); cell++) {
            if (cell >= other.length) {
                return OUT_OF_BOUNDS;
            }
            boolean isMarked = other.elements[cell] != 0;
            if (isMarked == grid.hasCandidate(cell, WHITE)) {
                return cell;
            }
        }
        return EMPTY;
    }

    public int undoCount() {
        return history.count;
    }

    private static boolean isWithin(int value, int least, int greatest) {
        return value >= least && value <= greatest;
    }

    private boolean hasRun(int line, int run) {
        return grid.hasLine(line) && isWithin(run, 0, grid.clues.runsOf(line) - 1);
    }

    /** Returns 0 if the color is a candidate of the cell, or the error code that is due. */
    private int candidateError(int row, int column, int color) {
        if (!grid.hasCell(row, column)) {
            return NO_SUCH_INDEX;
        }
        if (!isWithin(color, WHITE, grid.colors)) {
            return BAD_ARGUMENT;
        }
        return grid.hasCandidate(grid.cellAt(row, column), color) ? 0 : NOT_POSSIBLE;
    }

    /** Returns 0 if the color is a candidate of the cell beside others, or the error code that is due. */
    private int otherCandidatesError(int row, int column, int color) {
        int error = candidateError(row, column, color);
        if (error == 0 && grid.isDecided(grid.cellAt(row, column))) {
            return NOT_POSSIBLE;
        }
        return error;
    }

    private static boolean hasTable(int table) {
        return isWithin(table, 0, TABLES - 1);
    }

    /** Returns 0 if the table exists and is not missing, or the error code that is due. */
    private int tableError(int table) {
        if (!hasTable(table)) {
            return BAD_ARGUMENT;
        }
        return tables[table].type == NO_TYPE ? MISSING_TABLE : 0;
    }

    /** Returns 0 if the table has the element, or the error code that is due. */
    private int elementError(int table, int index) {
        int error = tableError(table);
        if (error == 0 && !isWithin(index, 0, tables[table].length - 1)) {
            return OUT_OF_BOUNDS;
        }
        return error;
    }

    private void commitWork() {
        history.push(grid);
        grid.copyFrom(work);
    }

    private int remember(int line, int depth) {
        rememberedLine = line;
        rememberedDepth = depth;
        return CONTRADICTION;
    }

    private void forgetContradiction() {
        rememberedLine = EMPTY;
        rememberedDepth = EMPTY;
    }

    /**
     * Reads the text into parsedClues, so that an error leaves the clues of the grid alone. Returns the total number of
     * runs, or PARSE_ERROR - p for an error at position p.
     */
    private int parseText() {
        parsedClues.emptyAll();
        int line = 0;
        int pendingLength = 0;
        for (int position = 0; position < text.length; position++) {
            int character = text.characters[position];
            if (pendingLength > 0) {
                int color = character - 'a' + 1;
                if (!isWithin(color, 1, grid.colors)) {
                    return PARSE_ERROR - position;
                }
                parsedClues.append(line, pendingLength, color);
                pendingLength = 0;
            } else if (character == '/') {
                line++;
                if (!grid.hasLine(line)) {
                    return PARSE_ERROR - position;
                }
            } else {
                pendingLength = character - '0';
                if (!isWithin(pendingLength, 1, MAX_RUN_LENGTH) || parsedClues.isFull(line)) {
                    return PARSE_ERROR - position;
                }
            }
        }
        boolean isComplete = pendingLength == 0 && line == grid.lineTotal() - 1;
        return isComplete ? parsedClues.runTotal() : PARSE_ERROR - text.length;
    }

    /** The clues of all lines that a grid can have. */
    private static final class Clues {
        private final int[] counts = new int[MAX_LINES];
        private final int[] lengths = new int[MAX_LINES * MAX_RUNS];
        private final int[] colors = new int[MAX_LINES * MAX_RUNS];

        int runsOf(int line) {
            return counts[line];
        }

        boolean isFull(int line) {
            return counts[line] >= MAX_RUNS;
        }

        int lengthOf(int line, int run) {
            return lengths[line * MAX_RUNS + run];
        }

        int colorOf(int line, int run) {
            return colors[line * MAX_RUNS + run];
        }

        /** Two adjacent runs of the same color need a white cell between them. */
        boolean needsGapBehind(int line, int run) {
            int index = line * MAX_RUNS + run;
            return run + 1 < counts[line] && colors[index] == colors[index + 1];
        }

        int cellsNeeded(int line) {
            int cells = 0;
            for (int run = 0; run < counts[line]; run++) {
                cells += lengthOf(line, run) + (needsGapBehind(line, run) ? 1 : 0);
            }
            return cells;
        }

        int runTotal() {
            int total = 0;
            for (int line = 0; line < MAX_LINES; line++) {
                total += counts[line];
            }
            return total;
        }

        void append(int line, int length, int color) {
            if (isFull(line)) {
                return;
            }
            int index = line * MAX_RUNS + counts[line];
            lengths[index] = length;
            colors[index] = color;
            counts[line]++;
        }

        void lengthenLast(int line) {
            if (counts[line] > 0) {
                lengths[line * MAX_RUNS + counts[line] - 1]++;
            }
        }

        void empty(int line) {
            counts[line] = 0;
        }

        void emptyAll() {
            Arrays.fill(counts, 0);
        }

        void copyFrom(Clues other) {
            System.arraycopy(other.counts, 0, counts, 0, counts.length);
            System.arraycopy(other.lengths, 0, lengths, 0, lengths.length);
            System.arraycopy(other.colors, 0, colors, 0, colors.length);
        }
    }

    /** The sizes, the clues and the candidates of all cells, which stand in row order. */
    private static final class Grid {
        private int rows = 1;
        private int columns = 1;
        private int colors = 1;
        private final Clues clues = new Clues();
        private final int[] cells = new int[MAX_CELLS];

        void start(int newRows, int newColumns, int newColors) {
            rows = newRows;
            columns = newColumns;
            colors = newColors;
            clues.emptyAll();
            fillCandidates();
        }

        void fillCandidates() {
            Arrays.fill(cells, (1 << (colors + 1)) - 1);
        }

        void copyFrom(Grid other) {
            rows = other.rows;
            columns = other.columns;
            colors = other.colors;
            clues.copyFrom(other.clues);
            System.arraycopy(other.cells, 0, cells, 0, cells.length);
        }

        int cellTotal() {
            return rows * columns;
        }

        int lineTotal() {
            return rows + columns;
        }

        /** Returns all lines as a bit mask. */
        int allLines() {
            return (1 << lineTotal()) - 1;
        }

        boolean hasLine(int line) {
            return isWithin(line, 0, lineTotal() - 1);
        }

        boolean hasCell(int row, int column) {
            return isWithin(row, 0, rows - 1) && isWithin(column, 0, columns - 1);
        }

        int cellAt(int row, int column) {
            return row * columns + column;
        }

        int lineLength(int line) {
            return line < rows ? columns : rows;
        }

        int lineCell(int line, int position) {
            return line < rows ? line * columns + position : position * columns + line - rows;
        }

        int rowLine(int cell) {
            return columns > 0 ? cell / columns : 0;
        }

        int columnLine(int cell) {
            return columns > 0 ? rows + cell % columns : rows;
        }

        /** Returns the two lines of a cell as a bit mask. */
        int linesThrough(int cell) {
            return 1 << rowLine(cell) | 1 << columnLine(cell);
        }

        boolean hasCandidate(int cell, int color) {
            return (cells[cell] >> color & 1) != 0;
        }

        boolean isDecided(int cell) {
            return Integer.bitCount(cells[cell]) == 1;
        }

        int decidedColor(int cell) {
            // Of a mask with a single bit, the lower bits are as many as the number of that bit.
            return Integer.bitCount(cells[cell] - 1);
        }

        int decidedTotal() {
            int decided = 0;
            for (int cell = 0; cell < cellTotal(); cell++) {
                if (isDecided(cell)) {
                    decided++;
                }
            }
            return decided;
        }

        boolean isAllDecided() {
            return decidedTotal() == cellTotal();
        }

        int decidedInLine(int line) {
            int decided = 0;
            for (int position = 0; position < lineLength(line); position++) {
                if (isDecided(lineCell(line, position))) {
                    decided++;
                }
            }
            return decided;
        }

        /** Replaces all clues by those that the cells match, which are all decided. */
        void describePicture() {
            clues.emptyAll();
            for (int line = 0; line < lineTotal(); line++) {
                describeLine(line);
            }
        }

        private void describeLine(int line) {
            int previous = WHITE;
            for (int position = 0; position < lineLength(line); position++) {
                int color = decidedColor(lineCell(line, position));
                if (color != WHITE && color == previous) {
                    clues.lengthenLast(line);
                } else if (color != WHITE) {
                    clues.append(line, 1, color);
                }
                previous = color;
            }
        }
    }

    /** The grids from before the latest edits; the oldest one makes way for the newest. */
    private static final class History {
        private final Grid[] states = new Grid[MAX_EDITS];
        private int next = 0;
        private int count = 0;

        History() {
            for (int state = 0; state < MAX_EDITS; state++) {
                states[state] = new Grid();
            }
        }

        void forget() {
            count = 0;
        }

        void push(Grid grid) {
            states[next].copyFrom(grid);
            next = (next + 1) % MAX_EDITS;
            count = Math.min(count + 1, MAX_EDITS);
        }

        boolean pop(Grid grid) {
            if (count == 0) {
                return false;
            }
            count--;
            next = (next + MAX_EDITS - 1) % MAX_EDITS;
            grid.copyFrom(states[next]);
            return true;
        }
    }

    /**
     * Counts and numbers the possible assignments of one line, and solves it. Every possible assignment is one way of
     * stepping through the line from its first cell, where a step is either one white cell or the next run together
     * with the white cell that it needs behind it. Sets of positions are bit masks.
     */
    private static final class LineSolver {
        private static final int WAYS_IN_ROW = MAX_SIDE + 1;

        private int length = 0;
        private int runs = 0;
        private final int[] runLengths = new int[MAX_RUNS];
        private final int[] runColors = new int[MAX_RUNS];
        // The cells that a run takes together with the white cell that it needs behind it.
        private final int[] spans = new int[MAX_RUNS];
        // By run: the positions at which the candidates let it start.
        private final int[] starts = new int[MAX_RUNS];
        // By color: the positions that have it as a candidate, and those that have it in a possible assignment.
        private final int[] possible = new int[MAX_COLORS + 1];
        private final int[] seen = new int[MAX_COLORS + 1];
        // By number of runs that are placed: the positions that steps from the first cell come to.
        private final int[] reached = new int[MAX_RUNS + 1];
        // By number of runs that are placed, and position: the number of ways to step from there to the end.
        private final int[] ways = new int[(MAX_RUNS + 1) * WAYS_IN_ROW];
        private int removed = 0;
        // The lines that cross the solved one at the cells that lost a candidate.
        private int touchedLines = 0;

        void load(Grid grid, int line) {
            length = grid.lineLength(line);
            runs = grid.clues.runsOf(line);
            loadCandidates(grid, line);
            loadRuns(grid.clues, line);
            countWays();
        }

        private void loadCandidates(Grid grid, int line) {
            Arrays.fill(possible, 0);
            for (int position = 0; position < length; position++) {
                int mask = grid.cells[grid.lineCell(line, position)];
                for (int color = 0; color <= MAX_COLORS; color++) {
                    possible[color] |= (mask >> color & 1) << position;
                }
            }
        }

        private void loadRuns(Clues clues, int line) {
            for (int run = 0; run < runs; run++) {
                boolean needsGap = clues.needsGapBehind(line, run);
                runLengths[run] = clues.lengthOf(line, run);
                runColors[run] = clues.colorOf(line, run);
                spans[run] = runLengths[run] + (needsGap ? 1 : 0);
                starts[run] = startsOf(runLengths[run], possible[runColors[run]]);
                if (needsGap) {
                    starts[run] &= possible[WHITE] >> runLengths[run];
                }
            }
        }

        /** Positions behind the end of the line are in no set, so no run can stick out of it. */
        private static int startsOf(int runLength, int positions) {
            int fitting = positions;
            for (int offset = 1; offset < runLength; offset++) {
                fitting &= positions >> offset;
            }
            return fitting;
        }

        private void countWays() {
            for (int run = runs; run >= 0; run--) {
                int row = run * WAYS_IN_ROW;
                ways[row + length] = run == runs ? 1 : 0;
                for (int position = length - 1; position >= 0; position--) {
                    ways[row + position] = whiteWays(run, position) + runWays(run, position);
                }
            }
        }

        private int whiteWays(int run, int position) {
            boolean canBeWhite = (possible[WHITE] >> position & 1) != 0;
            return canBeWhite ? ways[run * WAYS_IN_ROW + position + 1] : 0;
        }

        private int runWays(int run, int position) {
            boolean canStart = run < runs && position + spans[run] <= length && (starts[run] >> position & 1) != 0;
            return canStart ? ways[(run + 1) * WAYS_IN_ROW + position + spans[run]] : 0;
        }

        int total() {
            return ways[0];
        }

        /** A step that begins white comes before one that begins with a run, as white is the smallest color. */
        int colorIn(int assignment, int position) {
            int rest = assignment;
            int run = 0;
            int start = 0;
            for (int step = 0; step < MAX_SIDE && start <= position && run < runs; step++) {
                int whiteFirst = whiteWays(run, start);
                if (rest < whiteFirst) {
                    start++;
                } else {
                    if (position < start + runLengths[run]) {
                        return runColors[run];
                    }
                    rest -= whiteFirst;
                    start += spans[run];
                    run++;
                }
            }
            return WHITE;
        }

        /** Returns false, and changes nothing, if the line has no possible assignment. */
        boolean solve(Grid grid, int line) {
            load(grid, line);
            removed = 0;
            touchedLines = 0;
            if (total() == 0) {
                return false;
            }
            findSeen();
            for (int position = 0; position < length; position++) {
                int cell = grid.lineCell(line, position);
                int kept = seenAt(position);
                if (kept != grid.cells[cell]) {
                    removed += Integer.bitCount(grid.cells[cell]) - Integer.bitCount(kept);
                    grid.cells[cell] = kept;
                    // A row crosses the columns, which are numbered behind the rows, and a column crosses the rows.
                    touchedLines |= 1 << (line < grid.rows ? grid.rows + position : position);
                }
            }
            return true;
        }

        private void findSeen() {
            Arrays.fill(seen, 0);
            Arrays.fill(reached, 0);
            reached[0] = 1;
            for (int run = 0; run <= runs; run++) {
                for (int position = 0; position < length; position++) {
                    boolean isReached = (reached[run] >> position & 1) != 0;
                    if (isReached && whiteWays(run, position) > 0) {
                        seen[WHITE] |= 1 << position;
                        reached[run] |= 1 << (position + 1);
                    }
                    if (isReached && runWays(run, position) > 0) {
                        seeRun(run, position);
                        reached[run + 1] |= 1 << (position + spans[run]);
                    }
                }
            }
        }

        private void seeRun(int run, int position) {
            int end = position + runLengths[run];
            seen[runColors[run]] |= (1 << end) - (1 << position);
            if (spans[run] > runLengths[run]) {
                seen[WHITE] |= 1 << end;
            }
        }

        private int seenAt(int position) {
            int mask = 0;
            for (int color = 0; color <= MAX_COLORS; color++) {
                mask |= (seen[color] >> position & 1) << color;
            }
            return mask;
        }
    }

    /** Propagates in a grid. */
    private static final class Propagator {
        private final LineSolver lineSolver = new LineSolver();
        private int passes = 0;
        private int removed = 0;
        private int failedLine = 0;

        /** Returns false at a contradiction. Lines that are not in the bit mask have to be solved already. */
        boolean settle(Grid grid, int unsettledLines) {
            // A line that was solved since its cells changed would lose nothing, so passes leave it out.
            int unsettled = unsettledLines;
            passes = 0;
            removed = 0;
            for (int pass = 0; pass <= MAX_REMOVALS; pass++) {
                int before = removed;
                passes++;
                for (int line = 0; line < grid.lineTotal(); line++) {
                    if ((unsettled >> line & 1) == 0) {
                        continue;
                    }
                    if (!lineSolver.solve(grid, line)) {
                        failedLine = line;
                        return false;
                    }
                    removed += lineSolver.removed;
                    unsettled &= ~(1 << line);
                    unsettled |= lineSolver.touchedLines;
                }
                if (removed == before) {
                    return true;
                }
            }
            return true;
        }
    }

    /** Probes the candidates of a grid in rounds. */
    private static final class Prober {
        private final Grid trial = new Grid();
        private final Propagator propagator = new Propagator();
        private int failedProbes = 0;
        private int failedLine = 0;

        /** Propagates, and returns false at a contradiction. */
        boolean begin(Grid grid) {
            failedProbes = 0;
            return settle(grid, grid.allLines());
        }

        /** Returns false if a propagation of the grid itself has a contradiction. */
        boolean probeRound(Grid grid) {
            for (int cell = 0; cell < grid.cellTotal(); cell++) {
                for (int color = 0; color <= grid.colors; color++) {
                    boolean isOpen = grid.hasCandidate(cell, color) && !grid.isDecided(cell);
                    if (isOpen && failsWith(grid, cell, color)) {
                        failedProbes++;
                        grid.cells[cell] &= ~(1 << color);
                        if (!settle(grid, grid.linesThrough(cell))) {
                            return false;
                        }
                    }
                }
            }
            return true;
        }

        private boolean failsWith(Grid grid, int cell, int color) {
            trial.copyFrom(grid);
            trial.cells[cell] = 1 << color;
            return !propagator.settle(trial, trial.linesThrough(cell));
        }

        private boolean settle(Grid grid, int unsettledLines) {
            boolean isSound = propagator.settle(grid, unsettledLines);
            failedLine = propagator.failedLine;
            return isSound;
        }
    }

    /**
     * Searches for solutions. Its branches stand in arrays: a branch is a node whose children are being visited. Every
     * branch is a node, so there are never more branches than nodes.
     */
    private static final class Search {
        // Every step visits a node, leaves a branch or ends the search.
        private static final int MAX_STEPS = 2 * MAX_NODES + 1;

        private final Grid work = new Grid();
        private final Propagator propagator = new Propagator();
        private final int[] branchCells = new int[MAX_NODES * MAX_CELLS];
        private final int[] selectedCells = new int[MAX_NODES];
        private final int[] nextColors = new int[MAX_NODES];
        private int branches = 0;
        private int selectionRule = 0;
        private int nodes = 0;
        private int found = 0;
        private boolean failed = false;

        /** If as many solutions are found as are requested, the last one stays in the work grid. */
        void find(Grid root, int rule, int limit) {
            work.copyFrom(root);
            selectionRule = rule;
            branches = 0;
            nodes = 0;
            found = 0;
            failed = false;
            visit(work.allLines());
            for (int step = 0; step < MAX_STEPS && branches > 0 && found < limit && !failed; step++) {
                if (makeNextChild()) {
                    visit(work.linesThrough(selectedCells[branches - 1]));
                } else {
                    branches--;
                }
            }
        }

        int lastSolutionColor(int cell) {
            return work.decidedColor(cell);
        }

        /** Makes the work grid the next child of the latest branch, or returns false if there is none left. */
        private boolean makeNextChild() {
            int branch = branches - 1;
            int cell = selectedCells[branch];
            System.arraycopy(branchCells, branch * MAX_CELLS, work.cells, 0, MAX_CELLS);
            int color = nextColors[branch];
            while (color <= work.colors && !work.hasCandidate(cell, color)) {
                color++;
            }
            if (color > work.colors) {
                return false;
            }
            nextColors[branch] = color + 1;
            work.cells[cell] = 1 << color;
            return true;
        }

        private void visit(int unsettledLines) {
            if (nodes >= MAX_NODES) {
                failed = true;
                return;
            }
            nodes++;
            if (!propagator.settle(work, unsettledLines)) {
                return;
            }
            if (work.isAllDecided()) {
                found++;
                return;
            }
            System.arraycopy(work.cells, 0, branchCells, branches * MAX_CELLS, MAX_CELLS);
            selectedCells[branches] = selectCell();
            nextColors[branches] = WHITE;
            branches++;
        }

        private int selectCell() {
            int selected = 0;
            int highest = -1;
            for (int cell = 0; cell < work.cellTotal(); cell++) {
                // Only a higher score wins, so ties go to the cell that is first in row order.
                if (!work.isDecided(cell) && score(cell) > highest) {
                    selected = cell;
                    highest = score(cell);
                }
            }
            return selected;
        }

        private int score(int cell) {
            switch (selectionRule) {
                case 1:
                    return MAX_COLORS + 1 - Integer.bitCount(work.cells[cell]);
                case 2:
                    return work.decidedInLine(work.rowLine(cell)) + work.decidedInLine(work.columnLine(cell));
                default:
                    return 0;
            }
        }
    }

    /** A text with a fixed capacity. */
    private static final class Text {
        private final int[] characters;
        private int length = 0;

        Text(int capacity) {
            characters = new int[Math.max(capacity, 0)];
        }

        boolean append(int character) {
            if (length >= characters.length) {
                return false;
            }
            characters[length] = character;
            length++;
            return true;
        }

        void clear() {
            length = 0;
        }
    }

    /** A table, whose elements of all types are held as the numbers that are read from it. */
    private static final class Table {
        private final int[] elements = new int[TABLE_CAPACITY];
        private int type = NO_TYPE;
        private int length = 0;

        void start(int newType, int newLength) {
            type = newType;
            length = newLength;
            Arrays.fill(elements, 0);
        }

        void store(int index, int value) {
            if (type == BYTE_TYPE) {
                elements[index] = (byte) value;
            } else if (type == BOOLEAN_TYPE) {
                elements[index] = value != 0 ? 1 : 0;
            } else {
                elements[index] = value;
            }
        }
    }
}
