import java.io.IOException;
import java.lang.reflect.Method;
import java.lang.reflect.Modifier;
import java.net.URL;
import java.net.URLClassLoader;
import java.nio.file.Files;
import java.nio.file.Path;
import java.util.ArrayList;
import java.util.Comparator;
import java.util.HashSet;
import java.util.List;
import java.util.Set;
import java.util.regex.Matcher;
import java.util.regex.Pattern;
import java.util.stream.Stream;

/**
 * The runs of calls that README.md shows. They are compiled as they stand there, each a method of one class, and each
 * call must answer what stands behind it. A line that can't be checked is a fault, too.
 */
public final class ReadmeTest {
    private static final Check CHECK = new Check();
    private static final Path README = Path.of("README.md");
    private static final Path TESTS = Path.of("src/test/java");
    private static final String RUNS = "ReadmeRuns";
    private static final String NEW_OBJECT = "EvenTables x = new EvenTables();";
    private static final Pattern ANSWERED =
            Pattern.compile("((?:x\\.(\\w+)|\\w+)\\(.*\\)); +// (-?\\d+|NONE|true|false|\"[^\"]*\")(?:: .+)?");
    private static final Pattern NAMED_TEST = Pattern.compile("`(\\w+Test)`");

    private final StringBuilder helpers = new StringBuilder();
    private final StringBuilder runs = new StringBuilder();
    private final Set<String> called = new HashSet<>();
    private int runCount = 0;
    private int answerCount = 0;

    public static void main(String[] args) throws IOException, InterruptedException, ReflectiveOperationException {
        CHECK.in("README.md");
        List<String> lines = Files.readAllLines(README);
        ReadmeTest test = new ReadmeTest();
        test.readBlocks(lines);
        test.checkCounts();
        test.checkFace();
        checkTestsNamed(String.join("\n", lines));
        if (!CHECK.failed()) {
            test.compileAndRun();
        }
        CHECK.finish("ReadmeTest");
    }

    private void readBlocks(List<String> lines) {
        int at = 0;
        while (at < lines.size()) {
            boolean isJava = lines.get(at).equals("```java");
            boolean opens = lines.get(at).startsWith("```");
            at++;
            if (opens) {
                int end = at;
                while (end < lines.size() && !lines.get(end).equals("```")) {
                    end++;
                }
                if (isJava) {
                    readBlock(lines.subList(at, end), at + 1);
                }
                at = end + 1;
            }
        }
    }

    private void readBlock(List<String> block, int firstLine) {
        String first = block.isEmpty() ? "" : block.get(0);
        if (first.startsWith("/**") || first.startsWith("static ")) {
            helpers.append(String.join("\n", block)).append('\n');
            return;
        }
        if (!first.equals(NEW_OBJECT)) {
            CHECK.fail("line " + firstLine + ": a run begins with a new object");
        }
        runs.append("static void run").append(runCount).append("() {\n").append(NEW_OBJECT).append('\n');
        for (int i = 1; i < block.size(); i++) {
            readAnswer(block.get(i), firstLine + i);
        }
        runs.append("}\n");
        runCount++;
    }

    private void readAnswer(String line, int number) {
        Matcher matcher = ANSWERED.matcher(line);
        if (!matcher.matches()) {
            CHECK.fail("line " + number + ": no call with an answer: " + line);
            return;
        }
        String call = matcher.group(1);
        if (matcher.group(2) != null) {
            called.add(matcher.group(2));
        }
        String due = matcher.group(3).equals("NONE") ? "EvenTables.NONE" : matcher.group(3);
        runs.append("due(").append(number).append(", \"").append(call.replace("\"", "\\\"")).append("\", ");
        runs.append(call).append(", ").append(due).append(");\n");
        answerCount++;
    }

    /** So that a page whose blocks are no longer seen is no page without a fault. */
    private void checkCounts() {
        CHECK.due("runs of calls are seen", runCount >= 8, true);
        CHECK.due("answers are seen", answerCount >= 150, true);
    }

    private void checkFace() {
        for (Method method : EvenTables.class.getDeclaredMethods()) {
            if (Modifier.isPublic(method.getModifiers())) {
                CHECK.due("a run shows " + method.getName() + "()", called.contains(method.getName()), true);
            }
        }
    }

    private static void checkTestsNamed(String text) throws IOException {
        Set<String> named = new HashSet<>();
        Matcher matcher = NAMED_TEST.matcher(text);
        while (matcher.find()) {
            named.add(matcher.group(1));
        }
        Set<String> there = new HashSet<>();
        try (Stream<Path> files = Files.list(TESTS)) {
            files.map(file -> file.getFileName().toString()).filter(name -> name.endsWith("Test.java"))
                    .forEach(name -> there.add(name.replace(".java", "")));
        }
        if (!named.equals(there)) {
            CHECK.fail("the tests named are " + named + ", those there are " + there);
        }
    }

    private String source() {
        StringBuilder text = new StringBuilder("final class " + RUNS + " {\n");
        text.append("static final java.util.List<String> WRONG = new java.util.ArrayList<>();\n");
        text.append("static void due(int line, String call, Object got, Object want) {\n");
        // A call may answer a long; what is written down is an int then.
        text.append("if (!String.valueOf(got).equals(String.valueOf(want))) {\n");
        text.append("WRONG.add(\"line \" + line + \": \" + call + \" answered \" + got + \", there stands \" + want);\n}\n}\n");
        text.append(helpers).append(runs);
        text.append("static java.util.List<String> runAll() {\n");
        for (int i = 0; i < runCount; i++) {
            text.append("run").append(i).append("();\n");
        }
        return text.append("return WRONG;\n}\n}\n").toString();
    }

    private void compileAndRun() throws IOException, InterruptedException, ReflectiveOperationException {
        Path folder = Files.createTempDirectory("readme");
        try {
            Path file = folder.resolve(RUNS + ".java");
            Files.writeString(file, source());
            Process javac = new ProcessBuilder("javac", "-Xlint:all", "-Werror", "-cp", System.getProperty("java.class.path"),
                    "-d", folder.toString(), file.toString()).inheritIO().start();
            if (javac.waitFor() != 0) {
                CHECK.fail("what it shows does not compile");
                return;
            }
            for (String wrong : wrongAnswers(folder)) {
                CHECK.fail(wrong);
            }
        } finally {
            remove(folder);
        }
    }

    private static List<String> wrongAnswers(Path folder) throws IOException, ReflectiveOperationException {
        List<String> wrong = new ArrayList<>();
        try (URLClassLoader loader = new URLClassLoader(new URL[] {folder.toUri().toURL()})) {
            Method method = loader.loadClass(RUNS).getDeclaredMethod("runAll");
            method.setAccessible(true);
            for (Object text : (List<?>) method.invoke(null)) {
                wrong.add((String) text);
            }
        }
        return wrong;
    }

    private static void remove(Path folder) throws IOException {
        List<Path> files = new ArrayList<>();
        try (Stream<Path> found = Files.walk(folder)) {
            found.sorted(Comparator.reverseOrder()).forEach(files::add);
        }
        for (Path file : files) {
            Files.delete(file);
        }
    }
}
