import java.io.IOException;
import java.io.StringWriter;
import java.net.URL;
import java.net.URLClassLoader;
import java.nio.file.DirectoryStream;
import java.nio.file.Files;
import java.nio.file.Path;
import java.util.ArrayList;
import java.util.List;
import java.util.Set;
import java.util.TreeSet;
import java.util.regex.Matcher;
import java.util.regex.Pattern;
import javax.tools.JavaCompiler;
import javax.tools.StandardJavaFileManager;
import javax.tools.ToolProvider;

/**
 * What README.md says is so: its lines of use are compiled as they stand there and answer as it tells, its command is the
 * one that runs the tests, its list has every test.
 */
public final class ReadmeTest {
    private static final Pattern CALL = Pattern.compile("(house\\.\\w+\\(.*\\));\\s*// (-?\\d+)(:.*)?");

    private static int wrong;

    public static void main(String[] args) throws Exception {
        String page = Files.readString(Path.of("README.md"));
        linesOfUse(page);
        constants(page);
        command(page);
        listOfTests(page);
        System.out.println(wrong == 0 ? "README.md is so" : wrong + " are not so");
        if (wrong != 0) {
            System.exit(1);
        }
    }

    private static void due(boolean fine, String what) {
        if (!fine) {
            wrong++;
            System.out.println("README.md: " + what);
        }
    }

    // ---- lines of use

    private static void linesOfUse(String page) throws Exception {
        List<String> calls = new ArrayList<>();
        List<Long> told = new ArrayList<>();
        Set<String> parts = new TreeSet<>();
        for (String line : blockOf(page).split("\n")) {
            Matcher call = CALL.matcher(line);
            if (call.matches()) {
                calls.add(call.group(1));
                told.add(Long.parseLong(call.group(2)));
            } else if (line.matches("// \\d.*")) {
                parts.add(line.replaceAll("[^0-9]", ""));
            } else {
                due(line.isBlank() || line.equals("GlassHouse house = new GlassHouse();"), "a line of another form: " + line);
            }
        }
        due(parts.equals(Set.of("1", "2", "3", "4", "56", "7", "8", "9")), "parts with lines of use: " + parts);
        long[] answers = answersOf(calls);
        for (int k = 0; k < calls.size(); k++) {
            due(answers[k] == told.get(k), calls.get(k) + " answered " + answers[k] + ", not " + told.get(k));
        }
    }

    private static String blockOf(String page) {
        int begin = page.indexOf("```java\n");
        int end = page.indexOf("\n```", begin + 8);
        due(begin >= 0 && end > begin, "there is a block of lines of use");
        due(page.indexOf("```java\n", begin + 8) < 0, "there is one such block");
        return page.substring(begin + 8, end);
    }

    /** Compiles the calls into a method of their own and calls it. */
    private static long[] answersOf(List<String> calls) throws Exception {
        Path directory = Files.createTempDirectory("readme");
        try {
            StringBuilder source = new StringBuilder("public class ReadmeLines {\n    public static long[] answers() {\n");
            source.append("        GlassHouse house = new GlassHouse();\n");
            source.append("        long[] answers = new long[").append(calls.size()).append("];\n");
            for (int k = 0; k < calls.size(); k++) {
                source.append("        answers[").append(k).append("] = ").append(calls.get(k)).append(";\n");
            }
            source.append("        return answers;\n    }\n}\n");
            Path file = directory.resolve("ReadmeLines.java");
            Files.writeString(file, source);
            compile(file, directory);
            try (URLClassLoader loader = new URLClassLoader(new URL[] {directory.toUri().toURL()},
                    ReadmeTest.class.getClassLoader())) {
                return (long[]) loader.loadClass("ReadmeLines").getMethod("answers").invoke(null);
            }
        } finally {
            clear(directory);
        }
    }

    private static void compile(Path file, Path directory) throws IOException {
        JavaCompiler compiler = ToolProvider.getSystemJavaCompiler();
        StringWriter said = new StringWriter();
        try (StandardJavaFileManager files = compiler.getStandardFileManager(null, null, null)) {
            List<String> options = List.of("-classpath", System.getProperty("java.class.path"), "-d", directory.toString());
            boolean done = compiler.getTask(said, files, null, options, null, files.getJavaFileObjects(file)).call();
            if (!done) {
                throw new IllegalStateException("the lines of use do not compile: " + said);
            }
        }
    }

    private static void clear(Path directory) throws IOException {
        try (DirectoryStream<Path> files = Files.newDirectoryStream(directory)) {
            for (Path file : files) {
                Files.delete(file);
            }
        }
        Files.delete(directory);
    }

    // ---- what else it says

    private static void constants(String page) {
        due(page.contains("`GlassHouse.NONE` (" + GlassHouse.NONE + ")"), "NONE");
        due(page.contains("`GlassHouse.BAD` (" + GlassHouse.BAD + ")"), "BAD");
        due(page.contains("`GlassHouse.NO` (" + GlassHouse.NO + ")"), "NO");
        due(page.contains("`GlassHouse.FULL` (" + GlassHouse.FULL + ")"), "FULL");
    }

    private static void command(String page) throws IOException {
        String tests = page.substring(page.indexOf("## Tests"));
        due(tests.contains("\n    .ci/run\n"), "the command is .ci/run");
        due(Files.isExecutable(Path.of(".ci/run")), ".ci/run can be run");
        String script = Files.readString(Path.of(".ci/run"));
        due(script.contains("in src/test/java/*Test.java;"), "it runs every test of the project");
        due(script.contains("in ../shared/tests/*.java;"), "it runs every test under ../shared/tests");
    }

    private static void listOfTests(String page) throws IOException {
        Set<String> listed = new TreeSet<>();
        Matcher row = Pattern.compile("\n\\| `(\\w+Test)` \\| \\S").matcher(page);
        while (row.find()) {
            due(listed.add(row.group(1)), "the list has " + row.group(1) + " once");
        }
        Set<String> there = new TreeSet<>();
        try (DirectoryStream<Path> files = Files.newDirectoryStream(Path.of("src/test/java"), "*Test.java")) {
            for (Path file : files) {
                there.add(file.getFileName().toString().replace(".java", ""));
            }
        }
        due(listed.equals(there), "the tests are " + there + ", its list has " + listed);
    }
}
