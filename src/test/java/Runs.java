import java.lang.reflect.InvocationTargetException;
import java.lang.reflect.Method;

/**
 * Makes runs of calls on fresh objects and compares the answers with those that are due. A run is a text in the form of
 * the document's examples: "reset(1, 5, 1) -> 6; undo() -> EMPTY". A call without an arrow may answer anything.
 *
 * <p>These steps stand for several calls, of which the last one has the answer behind the arrow: "text 1a/ -> 3"
 * appends the characters, and "8 x undo() -> 0" makes a step eight times. These steps look at the whole grid:
 * "cells = 33/21" has the candidates of all cells as hexadecimal digits, row by row, and "clues = 1a/2b/" the clues of
 * all lines. "formatted = 1a/2b/" has the formatted text.
 */
final class Runs {
    private int wrong = 0;
    private int calls = 0;

    /** Makes a run on a new object; the calls of all texts are one run. */
    NonogramSolver run(String name, String... texts) {
        NonogramSolver solver = new NonogramSolver();
        more(name, solver, texts);
        return solver;
    }

    /** Goes on with a run. */
    void more(String name, NonogramSolver solver, String... texts) {
        for (String text : texts) {
            for (String step : text.split(";")) {
                if (!step.isBlank()) {
                    makeStep(name, solver, step.strip());
                }
            }
        }
    }

    private void makeStep(String name, NonogramSolver solver, String step) {
        if (step.contains(" = ") || step.endsWith(" =")) {
            int equals = step.indexOf(" =");
            String look = step.substring(0, equals);
            same(name + ": " + look, look(solver, look), step.substring(equals + 2).strip());
            return;
        }
        String[] sides = step.split("->");
        String call = sides[0].strip();
        long got = makeCalls(solver, call);
        if (sides.length > 1) {
            due(name + ": " + call, got, number(sides[1].strip()));
        }
    }

    private static long makeCalls(NonogramSolver solver, String call) {
        if (call.startsWith("text ")) {
            return append(solver, call.substring("text ".length()));
        }
        int times = call.indexOf(" x ");
        if (times < 0) {
            return call(solver, call);
        }
        long got = 0;
        for (int i = 0; i < Integer.parseInt(call.substring(0, times)); i++) {
            got = makeCalls(solver, call.substring(times + 3));
        }
        return got;
    }

    private static String look(NonogramSolver solver, String what) {
        return switch (what) {
            case "cells" -> cells(solver);
            case "clues" -> clues(solver);
            case "formatted" -> formattedText(solver);
            default -> throw new IllegalArgumentException(what);
        };
    }

    /** The candidates of all cells as hexadecimal digits, row by row. */
    static String cells(NonogramSolver solver) {
        StringBuilder result = new StringBuilder();
        int rows = solver.rowCount();
        int columns = solver.columnCount();
        for (int row = 0; row < rows; row++) {
            result.append(row > 0 ? "/" : "");
            for (int column = 0; column < columns; column++) {
                result.append(Integer.toHexString(solver.candidates(row, column)));
            }
        }
        return result.toString();
    }

    /** The clues of all lines in the form of the text, without calling formatClues. */
    static String clues(NonogramSolver solver) {
        StringBuilder result = new StringBuilder();
        int lines = solver.rowCount() + solver.columnCount();
        for (int line = 0; line < lines; line++) {
            result.append(line > 0 ? "/" : "");
            int runs = solver.runCount(line);
            for (int run = 0; run < runs; run++) {
                result.append(solver.runLength(line, run)).append("?abc".charAt(solver.runColor(line, run)));
            }
        }
        return result.toString();
    }

    /** The formatted text, as the latest call of formatClues made it. */
    static String formattedText(NonogramSolver solver) {
        StringBuilder result = new StringBuilder();
        int character = solver.formattedCharacter(0);
        while (character >= 0) {
            result.append((char) character);
            character = solver.formattedCharacter(result.length());
        }
        return result.toString();
    }

    static int call(Object solver, String call) {
        int open = call.indexOf('(');
        String inside = call.substring(open + 1, call.lastIndexOf(')')).strip();
        String[] texts = inside.isEmpty() ? new String[0] : inside.split(",");
        Object[] arguments = new Object[texts.length];
        for (int i = 0; i < texts.length; i++) {
            arguments[i] = (int) number(texts[i].strip());
        }
        return call(solver, call.substring(0, open), arguments);
    }

    static int call(Object solver, String name, Object[] arguments) {
        for (Method method : solver.getClass().getDeclaredMethods()) {
            if (method.getName().equals(name) && method.getParameterCount() == arguments.length) {
                try {
                    return (int) method.invoke(solver, arguments);
                } catch (InvocationTargetException e) {
                    throw new IllegalStateException(name + " threw " + e.getCause(), e);
                } catch (IllegalAccessException e) {
                    throw new IllegalStateException(e);
                }
            }
        }
        throw new IllegalArgumentException("no method " + name + " with " + arguments.length + " arguments");
    }

    private static long number(String text) {
        if (text.startsWith("'") && text.length() == 3) {
            return text.charAt(1);
        }
        if (!Character.isLetter(text.charAt(0))) {
            return Long.parseLong(text);
        }
        try {
            return NonogramSolver.class.getField(text).getInt(null);
        } catch (ReflectiveOperationException e) {
            throw new IllegalArgumentException(text, e);
        }
    }

    void due(String what, long got, long want) {
        calls++;
        if (got != want) {
            wrong++;
            System.out.println(what + " answered " + got + ", due is " + want);
        }
    }

    /** Appends a text, so that parseClues can read it, and returns the last answer. */
    static int append(NonogramSolver solver, String text) {
        int answer = 0;
        for (char character : text.toCharArray()) {
            answer = solver.appendText(character);
        }
        return answer;
    }

    /** Makes a new grid with these clues. */
    static NonogramSolver puzzle(int rows, int columns, int colors, String clues) {
        NonogramSolver solver = new NonogramSolver();
        solver.reset(rows, columns, colors);
        append(solver, clues);
        if (solver.parseClues() < 0) {
            throw new IllegalArgumentException(clues);
        }
        return solver;
    }

    static String formatted(NonogramSolver solver) {
        int length = solver.formatClues();
        StringBuilder result = new StringBuilder();
        for (int position = 0; position < length; position++) {
            result.append((char) solver.formattedCharacter(position));
        }
        return result.toString();
    }

    void same(String what, String got, String want) {
        calls++;
        if (!got.equals(want)) {
            wrong++;
            System.out.println(what + " is " + got + ", due is " + want);
        }
    }

    void holds(String what, boolean isTrue) {
        due(what, isTrue ? 1 : 0, 1);
    }

    /** Ends the test, with exit code 1 if an answer was wrong or nothing was tested. */
    void end() {
        System.out.println(wrong == 0 ? calls + " answers are as due" : wrong + " answers are not as due");
        if (wrong != 0 || calls == 0) {
            System.exit(1);
        }
    }
}
