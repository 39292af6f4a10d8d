import java.io.File;
import java.io.IOException;
import java.lang.invoke.MethodHandles;
import java.lang.reflect.Method;
import java.lang.reflect.Modifier;
import java.nio.file.Files;
import java.nio.file.Path;
import java.util.ArrayList;
import java.util.Collections;
import java.util.List;
import java.util.Set;
import java.util.TreeSet;
import java.util.regex.Matcher;
import java.util.regex.Pattern;
import javax.tools.JavaCompiler;
import javax.tools.ToolProvider;

/**
 * What README.md shows is what the class does: its blocks of Java are compiled and run, each of them as a run of its
 * own, and the answer behind each call is compared. Its table of exceptions is held against the face.
 */
public final class ReadmeTest {
    private static final String NAME = "ReadmeBlocks";
    // A call whose answer may be kept, and behind it a comment that begins with the answer; a colon ends the answer.
    private static final Pattern CALL =
            Pattern.compile("(int \\w+ = )?((\\w+)\\.(\\w+)\\(.*\\));\\s*//\\s*([^:]+?)\\s*(?::.*)?");
    private static final Pattern THROWS = Pattern.compile("throws (\\w+)");
    private static final Pattern CONSTANT = Pattern.compile("[A-Z_]+");
    private static final Pattern ROW =
            Pattern.compile("\\| (`[a-z]\\w+`(?:, `\\w+`)*) \\|([^|]*)\\|([^|]*)\\|([^|]*)\\|");
    // In the order of the table's columns, which is the order in which the face lists them.
    private static final String INDEX = "IndexOutOfBoundsException";
    private static final String ARGUMENT = "IllegalArgumentException";
    private static final String STATE = "IllegalStateException";

    private static final Set<String> shown = new TreeSet<>();
    private static int blocks;

    public static void main(String[] args) throws Exception {
        List<String> readme = Files.readAllLines(Path.of("README.md"));
        String program = program(readme);
        run(program);
        everyMethodIsShown();
        tableOfExceptions(readme);
        everyFileIsNamed(readme);
        Check.finish("ReadmeTest");
    }

    private static String program(List<String> readme) {
        StringBuilder s = new StringBuilder("final class " + NAME + " {\n");
        boolean inside = false;
        for (int line = 0; line < readme.size(); line++) {
            String text = readme.get(line);
            if (text.equals("```java")) {
                inside = true;
                s.append("static void block").append(blocks++).append("() {\n");
            } else if (inside && text.equals("```")) {
                inside = false;
                s.append("}\n");
            } else if (inside) {
                s.append(statement("README.md:" + (line + 1), text)).append('\n');
            }
        }
        s.append("static void all() {\n");
        for (int block = 0; block < blocks; block++) {
            s.append("block").append(block).append("();\n");
        }
        return s.append("}\n}\n").toString();
    }

    /** A call with an answer becomes a check; all other lines stay as they are, and only loops may ask without one. */
    private static String statement(String where, String text) {
        Matcher call = CALL.matcher(text);
        if (!call.matches()) {
            boolean tellsNothing = text.matches("(int \\w+ = )?[a-z]\\w*\\.\\w+\\(.*");
            Check.due(where + " tells an answer", tellsNothing, false);
            return text;
        }
        shown.add(call.group(4));
        String kept = call.group(1) == null ? "" : call.group(1);
        String asked = call.group(2);
        String what = '"' + where + ": " + asked + '"';
        String answer = call.group(5);
        Matcher thrown = THROWS.matcher(answer);
        if (thrown.matches()) {
            String refused = call.group(3) + ", " + thrown.group(1) + ".class, () -> " + asked;
            return "Check.refuses(" + what + ", " + refused + ");";
        }
        String want = CONSTANT.matcher(answer).matches() ? "LockStaircase." + answer : answer;
        if (kept.isEmpty()) {
            return "Check.due(" + what + ", " + asked + ", " + want + ");";
        }
        String name = kept.replaceAll("int | = ", "");
        return kept + asked + "; Check.due(" + what + ", " + name + ", " + want + ");";
    }

    private static void run(String program) throws Exception {
        Path folder = Files.createTempDirectory("readme");
        try {
            Path source = folder.resolve(NAME + ".java");
            Files.writeString(source, program);
            JavaCompiler compiler = ToolProvider.getSystemJavaCompiler();
            int code = compiler.run(null, null, null, "--release", "17", "-cp", System.getProperty("java.class.path"),
                    "-d", folder.toString(), source.toString());
            Check.due("README.md compiles", code, 0);
            if (code == 0) {
                runAll(folder.resolve(NAME + ".class"));
            }
        } finally {
            for (File file : folder.toFile().listFiles()) {
                file.delete();
            }
            folder.toFile().delete();
        }
    }

    private static void runAll(Path blocks) throws IOException, ReflectiveOperationException {
        // Defined beside this class, so that the blocks see Check and all answers count in one place.
        Class<?> program = MethodHandles.lookup().defineClass(Files.readAllBytes(blocks));
        Method all = program.getDeclaredMethod("all");
        all.setAccessible(true);
        all.invoke(null);
    }

    private static void everyMethodIsShown() {
        Check.due("README.md shows blocks", blocks > 0, true);
        for (Method method : LockStaircase.class.getDeclaredMethods()) {
            if (Modifier.isPublic(method.getModifiers())) {
                Check.due("README.md shows " + method.getName(), shown.contains(method.getName()), true);
            }
        }
    }

    /** Each method stands in one row of the table, with a word in the columns of its exceptions and in no other. */
    private static void tableOfExceptions(List<String> readme) {
        List<String> rows = new ArrayList<>();
        for (String line : readme) {
            Matcher row = ROW.matcher(line);
            if (row.matches()) {
                for (String name : row.group(1).replaceAll("[` ]", "").split(",")) {
                    rows.add(name + thrown(row, 2, INDEX) + thrown(row, 3, ARGUMENT) + thrown(row, 4, STATE));
                }
            }
        }
        List<String> due = new ArrayList<>();
        for (Method method : LockStaircase.class.getDeclaredMethods()) {
            if (Modifier.isPublic(method.getModifiers()) && method.getExceptionTypes().length > 0) {
                StringBuilder s = new StringBuilder(method.getName());
                for (Class<?> type : method.getExceptionTypes()) {
                    s.append(' ').append(type.getSimpleName());
                }
                due.add(s.toString());
            }
        }
        Collections.sort(rows);
        Collections.sort(due);
        Check.due("README.md's table of exceptions", rows, due);
    }

    private static String thrown(Matcher row, int column, String exception) {
        return row.group(column).isBlank() ? "" : " " + exception;
    }

    private static void everyFileIsNamed(List<String> readme) {
        String all = String.join(" ", readme);
        for (String file : new File("src/test/java").list()) {
            String name = file.replace(".java", "");
            Check.due("README.md names " + name, all.contains("`" + name + "`"), true);
        }
    }
}
