import java.io.ByteArrayOutputStream;
import java.io.File;
import java.io.IOException;
import java.io.PrintStream;
import java.net.URL;
import java.net.URLClassLoader;
import java.nio.charset.StandardCharsets;
import java.nio.file.Files;
import java.nio.file.Path;
import java.util.Arrays;
import java.util.Comparator;
import java.util.List;
import java.util.stream.Stream;
import javax.tools.JavaCompiler;
import javax.tools.ToolProvider;

/**
 * README.md: its example is compiled with the class as it stands there, and prints what stands
 * below it; each member of the public face is told, and each test of the project.
 */
public final class FaxRowsReadme {
    private static final Path README = Path.of("README.md");
    private static final Path TESTS = Path.of("src/test/java");
    private static final String[] FACE = {
        "int NONE",
        "FaxRows(int kind, int width)",
        "boolean put(int x, boolean on)",
        "boolean endRow()",
        "int encode()",
        "int byteAt(int i)",
        "boolean feed(int b)",
        "int decode()",
        "boolean at(int x, int y)",
        "boolean damaged(int row)",
        "int changes(int row, int k)",
        "int mode(int row, int k)",
        "boolean fill(int bits)",
        "boolean repair(int rule)",
        "int order(boolean lowFirst)",
        "void clear()",
    };

    private static int wrong = 0;

    private static void tell(String what) {
        wrong++;
        System.out.println(what);
    }

    /** What stands between the first line of ``` with the language's name and the next of ```. */
    private static String block(String text, String language) {
        String first = "\n```" + language + "\n";
        int start = text.indexOf(first);
        int end = start < 0 ? -1 : text.indexOf("\n```\n", start + first.length());
        if (end < 0) {
            tell("README.md has no block of " + language);
            return "";
        }
        return text.substring(start + first.length(), end + 1);
    }

    private static boolean compile(String program, Path directory) throws IOException {
        JavaCompiler compiler = ToolProvider.getSystemJavaCompiler();
        if (compiler == null) {
            tell("this java has no compiler");
            return false;
        }
        Path file = directory.resolve("Example.java");
        Files.writeString(file, program);
        return compiler.run(null, System.out, System.out, "-d", directory.toString(),
                "-cp", System.getProperty("java.class.path"), file.toString()) == 0;
    }

    private static String printed(Path directory) throws IOException {
        PrintStream before = System.out;
        ByteArrayOutputStream bytes = new ByteArrayOutputStream();
        URL[] places = {directory.toUri().toURL()};
        try (URLClassLoader loader = new URLClassLoader(places);
                PrintStream out = new PrintStream(bytes, true, StandardCharsets.UTF_8)) {
            System.setOut(out);
            loader.loadClass("Example").getMethod("main", String[].class)
                    .invoke(null, (Object) new String[0]);
        } catch (ReflectiveOperationException e) {
            return "it can't be run: " + e + ", " + e.getCause();
        } finally {
            System.setOut(before);
        }
        return bytes.toString(StandardCharsets.UTF_8).replace(System.lineSeparator(), "\n");
    }

    private static void remove(Path directory) throws IOException {
        try (Stream<Path> all = Files.walk(directory)) {
            all.sorted(Comparator.reverseOrder()).map(Path::toFile).forEach(File::delete);
        }
    }

    private static void example(String text) throws IOException {
        Path directory = Files.createTempDirectory("readme");
        try {
            if (!compile(block(text, "java"), directory)) {
                tell("the example of README.md can't be compiled");
                return;
            }
            List<String> got = Arrays.asList(printed(directory).split("\n"));
            List<String> want = Arrays.asList(block(text, "text").split("\n"));
            for (int i = 0; i < Math.max(got.size(), want.size()); i++) {
                String line = i < got.size() ? got.get(i) : "(nothing)";
                String due = i < want.size() ? want.get(i) : "(nothing)";
                if (!line.equals(due)) {
                    tell("the example's line " + (i + 1) + " is " + line + ", due is " + due);
                }
            }
        } finally {
            remove(directory);
        }
    }

    private static void face(String text) {
        for (String member : FACE) {
            if (!text.contains("`" + member + "`")) {
                tell("README.md does not tell " + member);
            }
        }
    }

    private static void tests(String text) {
        String[] files = TESTS.toFile().list((directory, name) -> name.endsWith(".java"));
        if (files == null || files.length == 0) {
            tell("there are no tests under " + TESTS);
            return;
        }
        for (String file : files) {
            if (!text.contains("\n- `" + file.replace(".java", "") + "`:")) {
                tell("README.md does not tell the test " + file);
            }
        }
    }

    public static void main(String[] args) throws IOException {
        String text = Files.readString(README);
        example(text);
        face(text);
        tests(text);
        System.out.println(wrong == 0 ? "README.md is as due" : wrong + " things are not as due");
        if (wrong != 0) {
            System.exit(1);
        }
    }
}
