import java.io.IOException;
import java.lang.reflect.Method;
import java.lang.reflect.Modifier;
import java.net.URL;
import java.net.URLClassLoader;
import java.nio.file.Files;
import java.nio.file.Path;
import java.util.List;
import java.util.regex.Matcher;
import java.util.regex.Pattern;
import java.util.stream.Stream;
import javax.tools.JavaCompiler;
import javax.tools.ToolProvider;

/** The calls that README.md shows, compiled and made just as it shows them, have the answers behind their "//". */
public final class ReadmeTest {
    private static final Pattern CALL =
            Pattern.compile("(?:(?:int|long) (\\w+) = )?(x\\.\\w+\\(.*\\)); +// (-?\\d+)(?:: .*)?");
    private static final Pattern OTHER =
            Pattern.compile("LinesTouched x = new LinesTouched\\(\\);|String \\w+ = .*;|for \\(.*");
    private static int wrong = 0;
    private static int answers = 0;

    /** What the program made of README.md calls for each answer. */
    public static void due(int row, long got, long want) {
        answers++;
        if (got != want) fault(row, "the answer is " + got + ", it shows " + want);
    }

    private static void fault(int row, String what) {
        wrong++;
        System.out.println("readme: row " + row + ": " + what);
    }

    /** Each block of the page is a method of its own, for each begins with a new object. */
    private static String programOf(List<String> page) {
        StringBuilder program = new StringBuilder("public class Shown {\n");
        StringBuilder show = new StringBuilder("public static void show() {\n");
        int blocks = 0;
        boolean inside = false;
        for (int i = 0; i < page.size(); i++) {
            String row = page.get(i);
            if (row.equals("```java")) {
                inside = true;
                blocks++;
                program.append("static void block").append(blocks).append("() {\n");
                show.append("block").append(blocks).append("();\n");
            } else if (row.equals("```")) {
                inside = false;
                program.append("}\n");
            } else if (inside) {
                program.append(rowOf(i + 1, row)).append('\n');
            }
        }
        return program.append(show).append("}\n}\n").toString();
    }

    private static String rowOf(int number, String row) {
        Matcher call = CALL.matcher(row);
        if (!call.matches()) {
            if (!OTHER.matcher(row).matches()) fault(number, "no call with its answer: " + row);
            return row;
        }
        String due = "ReadmeTest.due(" + number + ", %s, " + call.group(3) + "L);";
        if (call.group(1) == null) return String.format(due, call.group(2));
        return row.substring(0, row.indexOf("//")) + String.format(due, call.group(1));
    }

    private static void run(String program) throws IOException, ReflectiveOperationException {
        Path folder = Files.createTempDirectory("shown");
        Path source = folder.resolve("Shown.java");
        Files.writeString(source, program);
        JavaCompiler compiler = ToolProvider.getSystemJavaCompiler();
        int failed = compiler == null ? 1 : compiler.run(null, null, null,
                "-cp", System.getProperty("java.class.path"), "-d", folder.toString(), source.toString());
        if (failed != 0) fault(0, "what it shows doesn't compile");
        else try (URLClassLoader loader = new URLClassLoader(new URL[] {folder.toUri().toURL()})) {
            loader.loadClass("Shown").getMethod("show").invoke(null);
        }
        try (Stream<Path> made = Files.list(folder)) {
            for (Path file : made.toList()) Files.delete(file);
        }
        Files.delete(folder);
    }

    private static void showsAll(String program) {
        for (Method m : LinesTouched.class.getDeclaredMethods()) {
            boolean open = Modifier.isPublic(m.getModifiers());
            if (open && !program.contains("x." + m.getName() + "(")) fault(0, m.getName() + " isn't shown");
        }
    }

    private static void namesTests(String page) throws IOException {
        try (Stream<Path> tests = Files.list(Path.of("src/test/java"))) {
            for (Path test : tests.toList()) {
                String name = test.getFileName().toString().replace(".java", "");
                if (!page.contains("`" + name + "`")) fault(0, name + " isn't named");
            }
        }
        if (!page.contains("\n    .ci/run\n")) fault(0, "it doesn't say how to run the tests");
    }

    public static void main(String[] args) throws IOException, ReflectiveOperationException {
        List<String> page = Files.readAllLines(Path.of("README.md"));
        String program = programOf(page);
        run(program);
        showsAll(program);
        namesTests(String.join("\n", page));
        if (answers < LinesTouched.class.getDeclaredMethods().length) fault(0, "few answers were compared");
        System.out.println("readme: " + answers + " answers, " + (wrong == 0 ? "all as shown" : wrong + " faults"));
        if (wrong != 0) System.exit(1);
    }
}
