import java.util.ArrayDeque;
import java.util.ArrayList;
import java.util.Arrays;
import java.util.List;
import java.util.TreeSet;

/**
 * The document word for word, without regard to speed: assignments are listed one by one, and every state is a copy.
 * ReferenceTest compares the program with it.
 */
final class PlainModel {
    private record Run(int length, int color) { }

    /** Thrown by the search when a 61st node would have to be visited. */
    private static final class TooManyNodes extends RuntimeException {
        private static final long serialVersionUID = 1L;
    }

    private static final class State {
        int r;
        int c;
        int k;
        List<List<Run>> clues = new ArrayList<>();
        List<TreeSet<Integer>> cells = new ArrayList<>();

        State(int r, int c, int k) {
            this.r = r;
            this.c = c;
            this.k = k;
            for (int line = 0; line < r + c; line++) {
                clues.add(new ArrayList<>());
            }
            for (int cell = 0; cell < r * c; cell++) {
                cells.add(allColors());
            }
        }

        TreeSet<Integer> allColors() {
            TreeSet<Integer> colors = new TreeSet<>();
            for (int color = 0; color <= k; color++) {
                colors.add(color);
            }
            return colors;
        }

        State copy() {
            State copy = new State(r, c, k);
            for (int line = 0; line < r + c; line++) {
                copy.clues.set(line, new ArrayList<>(clues.get(line)));
            }
            for (int cell = 0; cell < r * c; cell++) {
                copy.cells.set(cell, new TreeSet<>(cells.get(cell)));
            }
            return copy;
        }

        /** The numbers of the cells of a line, in row order. */
        int[] cellsOf(int line) {
            int[] result = new int[line < r ? c : r];
            for (int i = 0; i < result.length; i++) {
                result[i] = line < r ? line * c + i : i * c + (line - r);
            }
            return result;
        }

        boolean decided(int cell) {
            return cells.get(cell).size() == 1;
        }

        int decidedCells() {
            int count = 0;
            for (int cell = 0; cell < r * c; cell++) {
                count += decided(cell) ? 1 : 0;
            }
            return count;
        }

        int[] colorsOf(int line) {
            int[] numbers = cellsOf(line);
            int[] colors = new int[numbers.length];
            for (int i = 0; i < numbers.length; i++) {
                colors[i] = cells.get(numbers[i]).first();
            }
            return colors;
        }

        /** All possible assignments, in ascending order. */
        List<int[]> assignments(int line) {
            List<int[]> result = new ArrayList<>();
            int[] numbers = cellsOf(line);
            extend(line, numbers, new int[numbers.length], 0, result);
            return result;
        }

        private void extend(int line, int[] numbers, int[] colors, int position, List<int[]> result) {
            List<Run> clue = clues.get(line);
            // Blocks that are closed already must be the first runs of the clue; this only saves time.
            List<Run> soFar = blocks(Arrays.copyOf(colors, position));
            int closed = Math.max(0, soFar.size() - 1);
            if (soFar.size() > clue.size() || !soFar.subList(0, closed).equals(clue.subList(0, closed))) {
                return;
            }
            if (position == numbers.length) {
                if (soFar.equals(clue)) {
                    result.add(colors.clone());
                }
                return;
            }
            for (int color : cells.get(numbers[position])) {
                colors[position] = color;
                extend(line, numbers, colors, position + 1, result);
            }
        }

        /** Returns the number of removed candidates, or -1 at a contradiction. */
        int solve(int line) {
            List<int[]> possible = assignments(line);
            if (possible.isEmpty()) {
                return -1;
            }
            int removed = 0;
            int[] numbers = cellsOf(line);
            for (int i = 0; i < numbers.length; i++) {
                TreeSet<Integer> seen = new TreeSet<>();
                for (int[] assignment : possible) {
                    seen.add(assignment[i]);
                }
                removed += cells.get(numbers[i]).size() - seen.size();
                cells.set(numbers[i], seen);
            }
            return removed;
        }
    }

    private record Propagation(int removed, int passes, int contradictionLine) {
        boolean failed() {
            return contradictionLine >= 0;
        }
    }

    private State state = new State(5, 5, 1);
    private State snapshot = null;
    private final ArrayDeque<State> earlier = new ArrayDeque<>();
    private int rule = 0;
    private int[] remembered = null;
    private String text = "";
    private String formatted = "";
    private final int[] types = {-1, -1, -1};
    private final int[][] tables = new int[3][];

    private static List<Run> blocks(int[] colors) {
        List<Run> result = new ArrayList<>();
        int i = 0;
        while (i < colors.length) {
            int end = i;
            while (end < colors.length && colors[end] == colors[i]) {
                end++;
            }
            if (colors[i] != 0) {
                result.add(new Run(end - i, colors[i]));
            }
            i = end;
        }
        return result;
    }

    private static Propagation settle(State grid) {
        int removed = 0;
        int passes = 0;
        while (true) {
            passes++;
            int inPass = 0;
            for (int line = 0; line < grid.r + grid.c; line++) {
                int lost = grid.solve(line);
                if (lost < 0) {
                    return new Propagation(removed, passes, line);
                }
                inPass += lost;
            }
            removed += inPass;
            if (inPass == 0) {
                return new Propagation(removed, passes, -1);
            }
        }
    }

    private static TreeSet<Integer> only(int color) {
        return new TreeSet<>(List.of(color));
    }

    private static boolean probeFails(State grid, int cell, int color) {
        State copy = grid.copy();
        copy.cells.set(cell, only(color));
        return settle(copy).failed();
    }

    private void edit() {
        earlier.addLast(state.copy());
        if (earlier.size() > 8) {
            earlier.removeFirst();
        }
    }

    private boolean noLine(int line) {
        return line < 0 || line >= state.r + state.c;
    }

    private boolean noCell(int row, int column) {
        return row < 0 || row >= state.r || column < 0 || column >= state.c;
    }

    private static int mask(TreeSet<Integer> colors) {
        int mask = 0;
        for (int color : colors) {
            mask |= 1 << color;
        }
        return mask;
    }

    public int reset(int rows, int columns, int colors) {
        if (rows < 1 || rows > 8 || columns < 1 || columns > 8 || colors < 1 || colors > 3) {
            return -2;
        }
        state = new State(rows, columns, colors);
        earlier.clear();
        remembered = null;
        return rows + columns;
    }

    public int rowCount() {
        return state.r;
    }

    public int columnCount() {
        return state.c;
    }

    public int colorCount() {
        return state.k;
    }

    public int addRun(int line, int length, int color) {
        if (noLine(line)) {
            return -1;
        }
        if (length < 1 || length > 8 || color < 1 || color > state.k) {
            return -2;
        }
        if (state.clues.get(line).size() == 8) {
            return -3;
        }
        edit();
        state.clues.get(line).add(new Run(length, color));
        return state.clues.get(line).size();
    }

    public int clearClue(int line) {
        if (noLine(line)) {
            return -1;
        }
        edit();
        int size = state.clues.get(line).size();
        state.clues.get(line).clear();
        return size;
    }

    public int runCount(int line) {
        return noLine(line) ? -1 : state.clues.get(line).size();
    }

    public int runLength(int line, int run) {
        return noLine(line) || run < 0 || run >= runCount(line) ? -1 : state.clues.get(line).get(run).length();
    }

    public int runColor(int line, int run) {
        return noLine(line) || run < 0 || run >= runCount(line) ? -1 : state.clues.get(line).get(run).color();
    }

    public int minimumLength(int line) {
        if (noLine(line)) {
            return -1;
        }
        List<Run> clue = state.clues.get(line);
        int sum = 0;
        for (Run run : clue) {
            sum += run.length();
        }
        for (int i = 1; i < clue.size(); i++) {
            sum += clue.get(i - 1).color() == clue.get(i).color() ? 1 : 0;
        }
        return sum;
    }

    public int candidates(int row, int column) {
        return noCell(row, column) ? -1 : mask(state.cells.get(row * state.c + column));
    }

    public int color(int row, int column) {
        if (noCell(row, column)) {
            return -1;
        }
        int cell = row * state.c + column;
        return state.decided(cell) ? state.cells.get(cell).first() : -6;
    }

    public int keepOnly(int row, int column, int color) {
        if (noCell(row, column)) {
            return -1;
        }
        if (color < 0 || color > state.k) {
            return -2;
        }
        int cell = row * state.c + column;
        if (!state.cells.get(cell).contains(color)) {
            return -5;
        }
        edit();
        int removed = state.cells.get(cell).size() - 1;
        state.cells.set(cell, only(color));
        return removed;
    }

    public int eliminate(int row, int column, int color) {
        if (noCell(row, column)) {
            return -1;
        }
        if (color < 0 || color > state.k) {
            return -2;
        }
        TreeSet<Integer> colors = state.cells.get(row * state.c + column);
        if (!colors.contains(color) || colors.size() == 1) {
            return -5;
        }
        edit();
        state.cells.get(row * state.c + column).remove(color);
        return state.cells.get(row * state.c + column).size();
    }

    public int decidedCount() {
        return state.decidedCells();
    }

    public int averageCandidates(int line) {
        if (noLine(line)) {
            return -1;
        }
        int sum = 0;
        int count = 0;
        for (int cell : state.cellsOf(line)) {
            if (!state.decided(cell)) {
                sum += state.cells.get(cell).size();
                count++;
            }
        }
        return count == 0 ? -8 : 100 * sum / count;
    }

    public int assignmentCount(int line) {
        return noLine(line) ? -1 : state.assignments(line).size();
    }

    public int assignmentColor(int line, int assignment, int position) {
        if (noLine(line)) {
            return -1;
        }
        List<int[]> all = state.assignments(line);
        boolean exists = assignment >= 0 && assignment < all.size()
            && position >= 0 && position < state.cellsOf(line).length;
        return exists ? all.get(assignment)[position] : -1;
    }

    public int solveLine(int line) {
        if (noLine(line)) {
            return -1;
        }
        State next = state.copy();
        int removed = next.solve(line);
        if (removed < 0) {
            remembered = new int[] {line, 0};
            return -4;
        }
        edit();
        state = next;
        return removed;
    }

    public int propagate() {
        State next = state.copy();
        Propagation done = settle(next);
        if (done.failed()) {
            remembered = new int[] {done.contradictionLine(), 0};
            return -4;
        }
        edit();
        state = next;
        return done.removed();
    }

    public int passCount() {
        Propagation done = settle(state.copy());
        return done.failed() ? -4 : done.passes();
    }

    public int probe(int row, int column, int color) {
        if (noCell(row, column)) {
            return -1;
        }
        if (color < 0 || color > state.k) {
            return -2;
        }
        int cell = row * state.c + column;
        if (!state.cells.get(cell).contains(color) || state.decided(cell)) {
            return -5;
        }
        return probeFails(state, cell, color) ? 1 : 0;
    }

    public int probeAll() {
        State next = state.copy();
        Propagation done = settle(next);
        int failed = 0;
        boolean again = true;
        while (again && !done.failed()) {
            again = false;
            for (int cell = 0; cell < next.r * next.c && !done.failed(); cell++) {
                for (int color : new ArrayList<>(next.cells.get(cell))) {
                    if (done.failed() || !next.cells.get(cell).contains(color) || next.decided(cell)) {
                        continue;
                    }
                    if (probeFails(next, cell, color)) {
                        failed++;
                        again = true;
                        next.cells.get(cell).remove(color);
                        done = settle(next);
                    }
                }
            }
        }
        if (done.failed()) {
            remembered = new int[] {done.contradictionLine(), failed};
            return -4;
        }
        edit();
        state = next;
        return failed;
    }

    public int contradictionLine() {
        return remembered == null ? -8 : remembered[0];
    }

    public int contradictionDepth() {
        return remembered == null ? -8 : remembered[1];
    }

    public int setRule(int newRule) {
        if (newRule < 0 || newRule > 2) {
            return -2;
        }
        int previous = rule;
        rule = newRule;
        return previous;
    }

    /** The solutions that a search finds, and the number of nodes that it visits. */
    private final class Searching {
        final List<State> solutions = new ArrayList<>();
        final int limit;
        int nodes = 0;

        Searching(int limit) {
            this.limit = limit;
            visit(state.copy());
        }

        private void visit(State node) {
            if (nodes == 60) {
                throw new TooManyNodes();
            }
            nodes++;
            if (settle(node).failed()) {
                return;
            }
            if (node.decidedCells() == node.r * node.c) {
                solutions.add(node);
                return;
            }
            int cell = select(node);
            for (int color : node.cells.get(cell)) {
                if (solutions.size() == limit) {
                    return;
                }
                State child = node.copy();
                child.cells.set(cell, only(color));
                visit(child);
            }
        }
    }

    private int select(State node) {
        List<Integer> undecided = new ArrayList<>();
        for (int cell = 0; cell < node.r * node.c; cell++) {
            if (!node.decided(cell)) {
                undecided.add(cell);
            }
        }
        int best = undecided.get(0);
        for (int cell : undecided) {
            boolean better = switch (rule) {
                case 1 -> node.cells.get(cell).size() < node.cells.get(best).size();
                case 2 -> decidedAround(node, cell) > decidedAround(node, best);
                default -> false;
            };
            best = better ? cell : best;
        }
        return best;
    }

    private static int decidedAround(State node, int cell) {
        int count = 0;
        for (int other = 0; other < node.r * node.c; other++) {
            if (node.decided(other)) {
                count += other / node.c == cell / node.c ? 1 : 0;
                count += other % node.c == cell % node.c ? 1 : 0;
            }
        }
        return count;
    }

    public int countSolutions(int limit) {
        if (limit < 1 || limit > 20) {
            return -2;
        }
        try {
            return new Searching(limit).solutions.size();
        } catch (TooManyNodes e) {
            return -7;
        }
    }

    public int solutionColor(int solution, int row, int column) {
        if (solution < 0 || solution > 19) {
            return -2;
        }
        if (noCell(row, column)) {
            return -1;
        }
        try {
            List<State> solutions = new Searching(solution + 1).solutions;
            return solutions.size() > solution
                ? solutions.get(solution).cells.get(row * state.c + column).first() : -8;
        } catch (TooManyNodes e) {
            return -7;
        }
    }

    public int searchNodes(int limit) {
        if (limit < 1 || limit > 20) {
            return -2;
        }
        try {
            return new Searching(limit).nodes;
        } catch (TooManyNodes e) {
            return -7;
        }
    }

    public int isUnique() {
        int count = countSolutions(2);
        return count == -7 ? -7 : count == 1 ? 1 : 0;
    }

    public int firstMismatch() {
        if (state.decidedCells() < state.r * state.c) {
            return -6;
        }
        for (int line = 0; line < state.r + state.c; line++) {
            if (!blocks(state.colorsOf(line)).equals(state.clues.get(line))) {
                return line;
            }
        }
        return -8;
    }

    private int describe() {
        int runs = 0;
        for (int line = 0; line < state.r + state.c; line++) {
            state.clues.set(line, blocks(state.colorsOf(line)));
            runs += state.clues.get(line).size();
        }
        return runs;
    }

    public int takeClues() {
        if (state.decidedCells() < state.r * state.c) {
            return -6;
        }
        edit();
        return describe();
    }

    public int drawPicture(int seed) {
        int generator = seed;
        int colored = 0;
        for (int cell = 0; cell < state.r * state.c; cell++) {
            generator = generator * 1103515245 + 12345;
            int color = (generator >>> 16) % (state.k + 1);
            state.cells.set(cell, only(color));
            colored += color != 0 ? 1 : 0;
        }
        describe();
        earlier.clear();
        return colored;
    }

    public int clearCells() {
        int decided = state.decidedCells();
        for (int cell = 0; cell < state.r * state.c; cell++) {
            state.cells.set(cell, state.allColors());
        }
        earlier.clear();
        return decided;
    }

    public int appendText(int character) {
        if (character < 32 || character > 126) {
            return -2;
        }
        if (text.length() == 120) {
            return -3;
        }
        text += (char) character;
        return text.length();
    }

    /** Tells whether the text can be continued to one of the due form: every clue but the last has its slash. */
    private boolean canContinue(String prefix) {
        String run = "[1-8][a-" + (char) ('a' + state.k - 1) + "]";
        String clue = "(" + run + "){0,8}";
        String slashes = "(" + clue + "/){0," + (state.r + state.c - 1) + "}";
        return prefix.matches(slashes + clue) || prefix.matches(slashes + "(" + run + "){0,7}[1-8]");
    }

    public int parseClues() {
        String whole = text;
        text = "";
        for (int p = 0; p < whole.length(); p++) {
            if (!canContinue(whole.substring(0, p + 1))) {
                return -100 - p;
            }
        }
        String[] parts = whole.split("/", -1);
        if (parts.length < state.r + state.c || parts[parts.length - 1].length() % 2 != 0) {
            return -100 - whole.length();
        }
        edit();
        int runs = 0;
        for (int line = 0; line < parts.length; line++) {
            List<Run> clue = new ArrayList<>();
            for (int i = 0; i < parts[line].length(); i += 2) {
                clue.add(new Run(parts[line].charAt(i) - '0', parts[line].charAt(i + 1) - 'a' + 1));
            }
            state.clues.set(line, clue);
            runs += clue.size();
        }
        return runs;
    }

    public int formatClues() {
        List<String> parts = new ArrayList<>();
        for (List<Run> clue : state.clues) {
            StringBuilder part = new StringBuilder();
            for (Run run : clue) {
                part.append(run.length()).append("?abc".charAt(run.color()));
            }
            parts.add(part.toString());
        }
        formatted = String.join("/", parts);
        return formatted.length();
    }

    public int formattedCharacter(int position) {
        return position < 0 || position >= formatted.length() ? -1 : formatted.charAt(position);
    }

    public int undo() {
        if (earlier.isEmpty()) {
            return -8;
        }
        state = earlier.removeLast();
        return earlier.size();
    }

    public int save() {
        snapshot = state.copy();
        return state.decidedCells();
    }

    public int restore() {
        if (snapshot == null) {
            return -8;
        }
        state = snapshot.copy();
        earlier.clear();
        remembered = null;
        return state.decidedCells();
    }

    public int createTable(int table, int type, int length) {
        if (table < 0 || table > 2 || type < 0 || type > 2 || length > 64) {
            return -2;
        }
        if (length < 0) {
            return -14;
        }
        types[table] = type;
        tables[table] = new int[length];
        return 1;
    }

    public int writeTable(int table, int index, int value) {
        int present = readTable(table, index);
        if (table < 0 || table > 2 || tables[table] == null || index < 0 || index >= tables[table].length) {
            return present;
        }
        tables[table][index] = types[table] == 0 ? (byte) value : types[table] == 1 ? value : value == 0 ? 0 : 1;
        return 1;
    }

    public int readTable(int table, int index) {
        if (table < 0 || table > 2) {
            return -2;
        }
        if (tables[table] == null) {
            return -11;
        }
        return index < 0 || index >= tables[table].length ? -13 : tables[table][index];
    }

    public int exportCandidates(int table) {
        if (table < 0 || table > 2) {
            return -2;
        }
        if (tables[table] == null) {
            return -11;
        }
        if (types[table] == 2) {
            return -12;
        }
        for (int cell = 0; cell < state.r * state.c; cell++) {
            if (cell == tables[table].length) {
                return -13;
            }
            tables[table][cell] = mask(state.cells.get(cell));
        }
        return state.r * state.c;
    }

    public int compareTable(int table) {
        if (table < 0 || table > 2) {
            return -2;
        }
        if (tables[table] == null) {
            return -11;
        }
        if (types[table] != 2) {
            return -12;
        }
        for (int cell = 0; cell < state.r * state.c; cell++) {
            if (cell == tables[table].length) {
                return -13;
            }
            boolean canBeWhite = state.cells.get(cell).contains(0);
            if (canBeWhite == (tables[table][cell] == 1)) {
                return cell;
            }
        }
        return -8;
    }

    public int undoCount() {
        return earlier.size();
    }
}
