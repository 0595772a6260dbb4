import java.util.List;
import java.util.Map;

/**
 * Tests the document sentence by sentence. A test says the words of a sentence and then tries them; every word of a
 * section has to be said by a test, and every sentence that is said has to be tried.
 */
final class Sentences {
    /** Makes a state in which no part is as in a new object. */
    static final String RICH = """
        reset(1, 2, 3); addRun(0, 2, 3); keepOnly(0, 1, 3); save() -> 1;
        reset(4, 2, 2) -> 6; text 1a/1a/1a/1a/2a/1a; parseClues() -> 6; probeAll() -> CONTRADICTION;
        contradictionLine() -> 5; contradictionDepth() -> 1; formatClues() -> 17; clearCells() -> 0;
        clearClue(1) -> 1; addRun(5, 3, 2) -> 2; keepOnly(3, 1, 1) -> 2; eliminate(1, 1, 0) -> 2; undoCount() -> 4;
        setRule(2) -> 0; text 1a -> 2; createTable(0, 0, 3); writeTable(0, 1, -7); createTable(1, 1, 8);
        writeTable(1, 3, 1000); cells = 77/76/77/72; clues = 1a//1a/1a/2a/1a3b;
        """;
    private static final String NOTHING = "";

    private final Runs runs = new Runs();
    private Document section = null;
    private String name = "";
    private boolean isTried = true;

    /** Makes a grid with these clues. */
    static String puzzle(int rows, int columns, int colors, String clues) {
        int runs = clues.replaceAll("[^a-c]", "").length();
        return String.format("reset(%d, %d, %d); text %s; parseClues() -> %d;", rows, columns, colors, clues, runs);
    }

    /** Looks at every cell of all solutions, which are given in the order in which they are found. */
    static String solutions(int columns, String solutions) {
        StringBuilder run = new StringBuilder();
        int number = 0;
        for (String solution : solutions.split(" ")) {
            for (int cell = 0; cell < solution.length(); cell++) {
                run.append(String.format("solutionColor(%d, %d, %d) -> %c;", number, cell / columns, cell % columns,
                    solution.charAt(cell)));
            }
            number++;
        }
        return run.append(String.format("solutionColor(%d, 0, 0) -> EMPTY;", number)).toString();
    }

    /** Opens a section of the document; the words of the one before must have been said by now. */
    void section(String heading) {
        closeSection();
        section = Document.section(heading);
        name = heading;
    }

    /** Says words of the section; the trials that follow are about them. */
    void says(String... sentences) {
        checkTried();
        name = section.heading() + ", \"" + String.join(" ... ", sentences) + "\"";
        for (String sentence : sentences) {
            runs.holds(name + " is what the document says: " + sentence, section.quote(sentence));
        }
        isTried = false;
    }

    /** Makes a run on a new object. */
    void answers(String... texts) {
        isTried = true;
        runs.run(name, texts);
    }

    /** Behind the setup, each of the calls has its answer, which is an error code, and leaves the state unchanged. */
    void refuses(String setup, String... calls) {
        for (String call : calls) {
            changes(NOTHING, setup, call);
        }
    }

    /** Behind the setup, each of the calls has its answer and leaves the state unchanged. */
    void keeps(String setup, String... calls) {
        refuses(setup, calls);
    }

    /** Behind the setup, the call has its answer and changes the parts that are named, and no other. */
    void changes(String parts, String setup, String call) {
        isTried = true;
        Map<String, String> before = State.parts(runs.run(name + ", setup", setup));
        Map<String, String> after = State.parts(runs.run(name, setup, call));
        List<String> changed = List.of(parts.split(", "));
        for (String part : before.keySet()) {
            String what = name + ": behind " + call + " the part " + part;
            if (!changed.contains(part)) {
                runs.same(what, after.get(part), before.get(part));
            } else {
                runs.holds(what + " is another one", !after.get(part).equals(before.get(part)));
            }
        }
        for (String part : changed) {
            runs.holds(part + " is a part", part.isEmpty() || before.containsKey(part));
        }
    }

    /** For what a run can't say. */
    void due(String what, long got, long want) {
        isTried = true;
        runs.due(name + ": " + what, got, want);
    }

    private void checkTried() {
        runs.holds(name + " is tried", isTried);
    }

    private void closeSection() {
        checkTried();
        if (section != null) {
            runs.same(section.heading() + ", words without a test", section.unquoted(), "");
        }
    }

    void end() {
        closeSection();
        runs.end();
    }
}
