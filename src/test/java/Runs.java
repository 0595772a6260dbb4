import java.lang.reflect.InvocationTargetException;
import java.lang.reflect.Method;

/**
 * Makes runs of calls on fresh objects and compares the answers with those that are due. A run is a text in the form of
 * the document's examples: "reset(1, 5, 1) -> 6; undo() -> EMPTY". A call without an arrow may answer anything.
 */
final class Runs {
    private int wrong = 0;
    private int calls = 0;

    /** Makes a run on a new object; the calls of all texts are one run. */
    NonogramSolver run(String name, String... texts) {
        NonogramSolver solver = new NonogramSolver();
        more(name, solver, texts);
        return solver;
    }

    /** Goes on with a run. */
    void more(String name, NonogramSolver solver, String... texts) {
        for (String text : texts) {
            for (String step : text.split(";")) {
                if (!step.isBlank()) {
                    makeStep(name, solver, step.strip());
                }
            }
        }
    }

    private void makeStep(String name, NonogramSolver solver, String step) {
        String[] sides = step.split("->");
        String call = sides[0].strip();
        long got = call(solver, call);
        if (sides.length > 1) {
            due(name + ": " + call, got, number(sides[1].strip()));
        }
    }

    static int call(Object solver, String call) {
        int open = call.indexOf('(');
        String inside = call.substring(open + 1, call.lastIndexOf(')')).strip();
        String[] texts = inside.isEmpty() ? new String[0] : inside.split(",");
        Object[] arguments = new Object[texts.length];
        for (int i = 0; i < texts.length; i++) {
            arguments[i] = (int) number(texts[i].strip());
        }
        return call(solver, call.substring(0, open), arguments);
    }

    static int call(Object solver, String name, Object[] arguments) {
        for (Method method : solver.getClass().getDeclaredMethods()) {
            if (method.getName().equals(name) && method.getParameterCount() == arguments.length) {
                try {
                    return (int) method.invoke(solver, arguments);
                } catch (InvocationTargetException e) {
                    throw new IllegalStateException(name + " threw " + e.getCause(), e);
                } catch (IllegalAccessException e) {
                    throw new IllegalStateException(e);
                }
            }
        }
        throw new IllegalArgumentException("no method " + name + " with " + arguments.length + " arguments");
    }

    private static long number(String text) {
        if (text.startsWith("'") && text.length() == 3) {
            return text.charAt(1);
        }
        if (!Character.isLetter(text.charAt(0))) {
            return Long.parseLong(text);
        }
        try {
            return NonogramSolver.class.getField(text).getInt(null);
        } catch (ReflectiveOperationException e) {
            throw new IllegalArgumentException(text, e);
        }
    }

    void due(String what, long got, long want) {
        calls++;
        if (got != want) {
            wrong++;
            System.out.println(what + " answered " + got + ", due is " + want);
        }
    }

    /** Appends a text, so that parseClues can read it. */
    static void append(NonogramSolver solver, String text) {
        for (char character : text.toCharArray()) {
            solver.appendText(character);
        }
    }

    /** Makes a new grid with these clues. */
    static NonogramSolver puzzle(int rows, int columns, int colors, String clues) {
        NonogramSolver solver = new NonogramSolver();
        solver.reset(rows, columns, colors);
        append(solver, clues);
        if (solver.parseClues() < 0) {
            throw new IllegalArgumentException(clues);
        }
        return solver;
    }

    static String formatted(NonogramSolver solver) {
        int length = solver.formatClues();
        StringBuilder result = new StringBuilder();
        for (int position = 0; position < length; position++) {
            result.append((char) solver.formattedCharacter(position));
        }
        return result.toString();
    }

    void same(String what, String got, String want) {
        calls++;
        if (!got.equals(want)) {
            wrong++;
            System.out.println(what + " is " + got + ", due is " + want);
        }
    }

    void holds(String what, boolean isTrue) {
        due(what, isTrue ? 1 : 0, 1);
    }

    /** Ends the test, with exit code 1 if an answer was wrong or nothing was tested. */
    void end() {
        System.out.println(wrong == 0 ? calls + " answers are as due" : wrong + " answers are not as due");
        if (wrong != 0 || calls == 0) {
            System.exit(1);
        }
    }
}
