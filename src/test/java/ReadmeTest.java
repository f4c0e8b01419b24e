import java.io.ByteArrayOutputStream;
import java.io.IOException;
import java.io.PrintStream;
import java.net.URL;
import java.net.URLClassLoader;
import java.nio.charset.StandardCharsets;
import java.nio.file.Files;
import java.nio.file.Path;
import java.util.List;
import java.util.stream.Collectors;
import java.util.stream.Stream;
import javax.tools.JavaCompiler;
import javax.tools.ToolProvider;

/** README.md: it is there, and says how to use the class and how to run its tests. */
public final class ReadmeTest {
    private static final Path PAGE = Path.of("README.md");
    private static final Path PROGRAM = Path.of("src/main/java/CoilPrices.java");
    private static final Path TESTS = Path.of("src/test/java");
    private static final Path RUN = Path.of(".ci/run");
    private static final Path BUILD = Path.of("build/readme");

    private ReadmeTest() {
    }

    public static void main(String[] args) throws Exception {
        if (!Files.isRegularFile(PAGE)) {
            Check.complain("there is no README.md");
            Check.finish();
        }
        String page = Files.readString(PAGE);
        String use = section(page, "How to use the class");
        String tests = section(page, "How to run the tests");
        eachCallIsNamed(use);
        exampleDoesWhatItSays(use);
        testsAreRunAsTold(tests);
        eachTestIsNamed(tests);
        Check.finish();
    }

    /** Empty if the page has no such section. */
    private static String section(String page, String title) {
        int start = page.indexOf("\n## " + title + "\n");
        if (start < 0) {
            Check.complain("README.md has no section: " + title);
            return "";
        }
        int end = page.indexOf("\n## ", start + 1);
        return page.substring(start, end < 0 ? page.length() : end);
    }

    /** What stands between the fences of the first block of this kind; empty if there is none. */
    private static String block(String section, String kind) {
        int fence = section.indexOf("```" + kind + "\n");
        int start = section.indexOf('\n', fence) + 1;
        int end = section.indexOf("```", start);
        if (fence < 0 || end < 0) {
            Check.complain("README.md has no block of " + kind);
            return "";
        }
        return section.substring(start, end);
    }

    /** The table's row begins with the call and its parameters, and "U" stands behind an undoable one. */
    private static void eachCallIsNamed(String use) {
        List<String> undoable = List.of("set", "addCoil", "stock", "fill", "buy", "look", "pass", "emptyBox",
                "carryOut");
        for (String line : FaceTest.FACE) {
            String call = line.substring(line.indexOf(' ') + 1, line.indexOf(')') + 1).replace("int ", "");
            boolean isUndoable = undoable.contains(call.substring(0, call.indexOf('(')));
            String row = "\n| `" + call + "`" + (isUndoable ? " U |" : " |");
            if (!use.contains(row)) {
                Check.complain("README.md has no row:" + row);
            }
        }
        for (String name : List.of("CoilPrices.java", "new CoilPrices()", "CoilPrices.NONE",
                "IllegalArgumentException", "IndexOutOfBoundsException", "IllegalStateException")) {
            if (!use.contains(name)) {
                Check.complain("README.md does not tell of " + name);
            }
        }
    }

    private static void exampleDoesWhatItSays(String use) throws Exception {
        JavaCompiler compiler = ToolProvider.getSystemJavaCompiler();
        if (compiler == null) {
            System.out.println("no compiler here: the example of README.md is not run");
            return;
        }
        Files.createDirectories(BUILD);
        Path example = BUILD.resolve("Example.java");
        Files.writeString(example, block(use, "java"));
        int failed = compiler.run(null, null, null, "-encoding", "UTF-8", "-d", BUILD.toString(),
                PROGRAM.toString(), example.toString());
        Check.due("the compiler of README.md's example", failed, 0);
        if (failed == 0) {
            String printed = printedByExample();
            if (!printed.equals(block(use, "text"))) {
                Check.complain("README.md's example prints:\n" + printed);
            }
        }
    }

    private static String printedByExample() throws Exception {
        ByteArrayOutputStream bytes = new ByteArrayOutputStream();
        PrintStream before = System.out;
        URL[] places = {BUILD.toUri().toURL()};
        try (URLClassLoader loader = new URLClassLoader(places, ClassLoader.getPlatformClassLoader());
                PrintStream here = new PrintStream(bytes, true, StandardCharsets.UTF_8)) {
            System.setOut(here);
            loader.loadClass("Example").getMethod("main", String[].class).invoke(null, (Object) new String[0]);
        } finally {
            System.setOut(before);
        }
        return bytes.toString(StandardCharsets.UTF_8).replace(System.lineSeparator(), "\n");
    }

    private static void testsAreRunAsTold(String tests) {
        Check.due("README.md tells of .ci/run", block(tests, "sh").equals(".ci/run\n") ? 1 : 0, 1);
        Check.due(".ci/run is there and can be run", Files.isExecutable(RUN) ? 1 : 0, 1);
        for (String name : List.of("javac", "java", "src/test/java", "../shared/tests")) {
            if (!tests.contains("`" + name + "`")) {
                Check.complain("README.md does not tell of " + name + " at the tests");
            }
        }
    }

    private static void eachTestIsNamed(String tests) throws IOException {
        try (Stream<Path> files = Files.list(TESTS)) {
            List<String> names = files.map(file -> file.getFileName().toString())
                    .filter(name -> name.endsWith("Test.java"))
                    .map(name -> name.substring(0, name.length() - ".java".length()))
                    .collect(Collectors.toList());
            for (String name : names) {
                if (!tests.contains("\n| `" + name + "` | ")) {
                    Check.complain("README.md does not name the test " + name);
                }
            }
            for (String line : tests.split("\n")) {
                if (line.startsWith("| `") && !names.contains(line.substring(3, line.indexOf('`', 3)))) {
                    Check.complain("README.md names a test that is not there: " + line);
                }
            }
        }
    }
}
