import java.io.IOException;
import java.lang.reflect.Field;
import java.lang.reflect.Method;
import java.lang.reflect.Modifier;
import java.nio.file.Files;
import java.nio.file.Path;
import java.util.List;
import java.util.Set;
import java.util.TreeSet;
import java.util.regex.Matcher;
import java.util.regex.Pattern;

/** The public face of the document, and those rules of LANGUAGE.md that can be read off the source. */
public final class LanguageTest {
    private static final Runs RUNS = new Runs();
    private static final String CONSTANTS = "NO_SUCH_INDEX=-1 BAD_ARGUMENT=-2 FULL=-3 CONTRADICTION=-4 "
        + "NOT_POSSIBLE=-5 UNDECIDED=-6 SEARCH_LIMIT=-7 EMPTY=-8 MISSING_TABLE=-11 WRONG_TYPE=-12 OUT_OF_BOUNDS=-13 "
        + "NEGATIVE_LENGTH=-14";
    // Every method with the number of its parameters, which are all ints.
    private static final String METHODS = "reset/3 rowCount/0 columnCount/0 colorCount/0 addRun/3 clearClue/1 "
        + "runCount/1 runLength/2 runColor/2 minimumLength/1 candidates/2 color/2 keepOnly/3 eliminate/3 "
        + "decidedCount/0 averageCandidates/1 assignmentCount/1 assignmentColor/3 solveLine/1 propagate/0 passCount/0 "
        + "probe/3 probeAll/0 contradictionLine/0 contradictionDepth/0 setRule/1 countSolutions/1 solutionColor/3 "
        + "searchNodes/1 isUnique/0 firstMismatch/0 takeClues/0 drawPicture/1 clearCells/0 appendText/1 parseClues/0 "
        + "formatClues/0 formattedCharacter/1 undo/0 save/0 restore/0 createTable/3 writeTable/3 readTable/2 "
        + "exportCandidates/1 compareTable/1 undoCount/0";

    public static void main(String[] args) throws IOException {
        face();
        privateNames();
        source(Files.readString(Path.of("src/main/java/NonogramSolver.java")));
        RUNS.end();
    }

    private static void face() {
        Set<String> constants = new TreeSet<>();
        for (Field field : NonogramSolver.class.getDeclaredFields()) {
            if (!Modifier.isPrivate(field.getModifiers())) {
                RUNS.holds(field + " is a constant", Modifier.toString(field.getModifiers()).equals("public static final"));
                try {
                    constants.add(field.getName() + "=" + field.getInt(null));
                } catch (IllegalAccessException e) {
                    throw new IllegalStateException(e);
                }
            }
        }
        RUNS.same("the constants", constants.toString(), new TreeSet<>(List.of(CONSTANTS.split(" "))).toString());
        Set<String> methods = new TreeSet<>();
        for (Method method : NonogramSolver.class.getDeclaredMethods()) {
            if (!Modifier.isPrivate(method.getModifiers())) {
                methods.add(method.getName() + "/" + method.getParameterCount());
                RUNS.holds(method + " returns an int", method.getReturnType() == int.class);
                RUNS.same(method + " is public", Modifier.toString(method.getModifiers()), "public");
            }
        }
        RUNS.same("the methods", methods.toString(), new TreeSet<>(List.of(METHODS.split(" "))).toString());
        RUNS.due("constructors", NonogramSolver.class.getDeclaredConstructors().length, 1);
    }

    private static void privateNames() {
        Class<?>[] inside = NonogramSolver.class.getDeclaredClasses();
        RUNS.holds("at most some twelve classes", inside.length <= 11);
        bearNoPublicNames(NonogramSolver.class);
        for (Class<?> one : inside) {
            bearNoPublicNames(one);
            RUNS.holds(one + " is static", Modifier.isStatic(one.getModifiers()));
            int fields = 0;
            for (Field field : one.getDeclaredFields()) {
                fields += Modifier.isStatic(field.getModifiers()) ? 0 : 1;
            }
            RUNS.holds(one + " has some twenty fields", fields <= 20);
        }
    }

    private static void bearNoPublicNames(Class<?> one) {
        for (Method method : one.getDeclaredMethods()) {
            boolean isPrivate = Modifier.isPrivate(method.getModifiers());
            boolean isPublicName = List.of(METHODS.replaceAll("/\\d", "").split(" ")).contains(method.getName());
            RUNS.holds(method + " bears no public name", !isPrivate || !isPublicName);
        }
    }

    private static void source(String text) {
        String code = text.replaceAll("(?s)/\\*.*?\\*/", " ").replaceAll("//[^\n]*", " ");
        String[] forbidden = {"\\bthrow\\b", "\\btry\\b", "\\bcatch\\b", "\\bsynchronized\\b", "\\bassert\\b", "->", "::",
            "\\bpackage\\b", "\\bnative\\b", "\\bExact\\b", "\\bThread\\b", "\\bRandom\\b", "currentTime", "nanoTime",
            "\\bequals\\b", "\\bhashCode\\b", "\\btoString\\b", "\\bstatic\\s*\\{", "\\blong\\b.*\\bMath\\.\\w*Exact"};
        for (String pattern : forbidden) {
            RUNS.holds("no " + pattern, !Pattern.compile(pattern).matcher(code).find());
        }
        Matcher imports = Pattern.compile("\\bimport\\s+([^;]+);").matcher(code);
        while (imports.find()) {
            RUNS.same("the import", imports.group(1), "java.util.Arrays");
        }
        Matcher library = Pattern.compile("\\b(System|Arrays|Math|Integer)\\.(\\w+)").matcher(code);
        Set<String> allowed = Set.of("System.arraycopy", "Arrays.fill", "Math.min", "Math.max", "Integer.bitCount");
        while (library.find()) {
            RUNS.holds(library.group() + " is allowed", allowed.contains(library.group()));
        }
        for (String line : text.split("\n")) {
            RUNS.holds("at most 120 characters: " + line, line.length() <= 120);
        }
        methodLengths(text.split("\n"));
    }

    /** A method of the class stands four spaces in, and one of a class inside it eight. */
    private static void methodLengths(String[] lines) {
        Pattern header = Pattern.compile("( {4}| {8})(?!if |for |while |switch )\\w[\\w\\[\\] ]*\\(([^()]*)\\) \\{");
        int methods = 0;
        for (int start = 0; start < lines.length; start++) {
            Matcher method = header.matcher(lines[start]);
            if (method.matches()) {
                methods++;
                int end = List.of(lines).subList(start, lines.length).indexOf(method.group(1) + "}");
                RUNS.holds("some sixty lines: " + lines[start], end > 0 && end < 60);
                RUNS.holds("at most seven parameters: " + lines[start], method.group(2).split(",").length <= 7);
            }
        }
        RUNS.holds("the methods are found", methods > 100);
    }
}
