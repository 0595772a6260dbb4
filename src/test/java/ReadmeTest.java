import java.io.IOException;
import java.lang.reflect.Field;
import java.nio.file.Files;
import java.nio.file.Path;
import java.util.regex.Matcher;
import java.util.regex.Pattern;

/** Makes the calls of README.md, and compares its error codes with the constants and its names of tests with the files. */
public final class ReadmeTest {
    private static final Runs RUNS = new Runs();
    private static final Pattern CALL = Pattern.compile("solver\\.(\\w+\\(.*?\\)); +// (-?\\w+).*");
    private static final Pattern CODE = Pattern.compile("\\| (-\\d+) \\| `(\\w+)` \\| (.*) \\|");
    private static final String MAKING = "NonogramSolver solver = new NonogramSolver();";

    public static void main(String[] args) throws IOException {
        String page = Files.readString(Path.of("README.md"));
        calls(page);
        errorCodes(page);
        namesOfTests(page);
        RUNS.end();
    }

    /** All calls of the page are one run: a reader tries them one behind the other. */
    private static void calls(String page) {
        NonogramSolver solver = null;
        boolean isJava = false;
        for (String line : page.split("\n")) {
            if (line.startsWith("```")) {
                isJava = line.equals("```java");
            } else if (line.equals(MAKING)) {
                solver = new NonogramSolver();
            } else if (isJava) {
                Matcher call = CALL.matcher(line);
                RUNS.holds("the form of the line " + line, call.matches());
                RUNS.more("README.md", solver, call.group(1) + " -> " + call.group(2));
            }
        }
        RUNS.holds("an object is made", solver != null);
    }

    private static void errorCodes(String page) {
        int codes = 0;
        Matcher code = CODE.matcher(page);
        while (code.find()) {
            codes++;
            RUNS.due(code.group(2), constant(code.group(2)), Integer.parseInt(code.group(1)));
            String sentence = "`" + code.group(2) + " = " + code.group(1) + "`: " + code.group(3);
            RUNS.holds(sentence, Document.section("Description").quote(sentence));
        }
        int constants = 0;
        for (Field field : NonogramSolver.class.getFields()) {
            constants += field.getDeclaringClass() == NonogramSolver.class ? 1 : 0;
        }
        RUNS.due("the number of error codes", codes, constants);
    }

    private static long constant(String name) {
        try {
            return NonogramSolver.class.getField(name).getInt(null);
        } catch (ReflectiveOperationException e) {
            return 0;
        }
    }

    private static void namesOfTests(String page) throws IOException {
        Matcher test = Pattern.compile("\\b\\w+Test\\b").matcher(page);
        while (test.find()) {
            RUNS.holds(test.group() + " is a test", Files.exists(Path.of("src/test/java", test.group() + ".java")));
        }
        try (var files = Files.list(Path.of("src/test/java"))) {
            files.map(file -> file.getFileName().toString().replace(".java", "")).forEach(name ->
                RUNS.holds("README.md tells of " + name, page.contains("`" + name + "`")));
        }
    }
}
