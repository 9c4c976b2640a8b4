import java.io.IOException;
import java.lang.reflect.Method;
import java.lang.reflect.Modifier;
import java.nio.charset.StandardCharsets;
import java.nio.file.Files;
import java.nio.file.Path;
import java.util.ArrayList;
import java.util.Comparator;
import java.util.List;
import java.util.TreeSet;
import java.util.regex.Matcher;
import java.util.regex.Pattern;
import java.util.stream.Stream;

/**
 * What README.md says is so: its calls, made in their order as one Java program, answer what stands behind them;
 * each method is among them; its commands pass; and its table has each test of the project.
 */
public final class ReadmeTest {
    private static final Path README = Path.of("README.md");
    private static final Path TESTS = Path.of("src", "test", "java");
    private static final Path CI = Path.of(".ci", "run");
    private static final Pattern CALL = Pattern.compile("desk\\.(\\w+)\\((.*?)\\);(?: +// (.*))?");
    private static final Pattern ANSWERS = Pattern.compile("answers ([\\w.-]+)(?:: .*)?");
    private static final Pattern THROWS = Pattern.compile("throws (\\w+): .*");
    private static final Pattern TEST_ROW = Pattern.compile("\\| `(\\w+)` \\| .* \\|");

    public static void main(String[] args) throws IOException, InterruptedException {
        List<String> page = Files.readAllLines(README, StandardCharsets.UTF_8);
        Path folder = Files.createTempDirectory("readme");
        try {
            List<String> example = block(page, "java");
            lookThatAllAreShown(example);
            runExample(example, folder);
            runCommands(block(page, "sh"), folder);
            lookThatCiStands(page);
            lookThatAllTestsAreListed(page);
        } finally {
            remove(folder);
        }
        Check.end();
    }

    private static List<String> block(List<String> page, String language) {
        int first = page.indexOf("```" + language);
        Check.same("README.md has one block of " + language, first == page.lastIndexOf("```" + language), true);
        Check.same("README.md has a block of " + language, first >= 0, true);
        List<String> rest = page.subList(first + 1, page.size());
        return rest.subList(0, Math.max(0, rest.indexOf("```")));
    }

    // ---- the calls

    private static void lookThatAllAreShown(List<String> example) {
        String text = String.join("\n", example);
        for (Method method : IssueDesk.class.getDeclaredMethods()) {
            if (Modifier.isPublic(method.getModifiers())) {
                Check.same("README.md shows a call of " + method.getName(),
                    text.contains("desk." + method.getName() + "("), true);
            }
        }
    }

    private static void runExample(List<String> example, Path folder) throws IOException, InterruptedException {
        StringBuilder program = new StringBuilder("public final class ReadmeExample {\n")
            .append("public static void main(String[] args) {\n");
        for (String line : example) {
            program.append(statement(line)).append('\n');
        }
        program.append("Check.end();\n}\n}\n");
        Path file = folder.resolve("ReadmeExample.java");
        Files.writeString(file, program, StandardCharsets.UTF_8);
        String own = System.getProperty("java.class.path");
        String all = own + System.getProperty("path.separator") + folder;
        Check.same("exit code of javac, of the calls in README.md",
            exitCode(folder, "javac", "-encoding", "UTF-8", "-cp", own, "-d", folder.toString(), file.toString()), 0);
        Check.same("exit code of the calls in README.md", exitCode(folder, "java", "-cp", all, "ReadmeExample"), 0);
    }

    /** The line itself, or a comparison of the call in it with what is told behind it. */
    private static String statement(String line) {
        Matcher call = CALL.matcher(line);
        if (!call.matches()) {
            return line;
        }
        String text = "desk." + call.group(1) + "(" + call.group(2) + ")";
        String told = call.group(3) == null ? "" : call.group(3);
        Matcher answers = ANSWERS.matcher(told);
        if (answers.matches()) {
            return "Check.same(\"README.md: " + text + "\", " + text + ", " + answers.group(1) + ");";
        }
        Matcher thrown = THROWS.matcher(told);
        if (thrown.matches()) {
            return "Check.fails(\"README.md: " + text + "\", " + thrown.group(1) + ".class, () -> " + text + ");";
        }
        Check.same("README.md says what " + text + " answers", isVoid(call.group(1)), true);
        return line;
    }

    private static boolean isVoid(String name) {
        for (Method method : IssueDesk.class.getDeclaredMethods()) {
            if (method.getName().equals(name)) {
                return method.getReturnType() == void.class;
            }
        }
        return false;
    }

    // ---- the tests

    private static void runCommands(List<String> commands, Path folder) throws IOException, InterruptedException {
        Check.same("exit code of the commands in README.md",
            exitCode(folder, "sh", "-e", "-c", String.join("\n", commands)), 0);
    }

    /** Not run from here, as it runs this test. */
    private static void lookThatCiStands(List<String> page) {
        Check.same("README.md names .ci/run", page.contains("    .ci/run"), true);
        Check.same(".ci/run can be run", Files.isExecutable(CI), true);
    }

    private static void lookThatAllTestsAreListed(List<String> page) throws IOException {
        TreeSet<String> told = new TreeSet<>();
        for (String line : page) {
            Matcher row = TEST_ROW.matcher(line);
            if (row.matches()) {
                told.add(row.group(1));
            }
        }
        TreeSet<String> there = new TreeSet<>();
        try (Stream<Path> files = Files.list(TESTS)) {
            files.map(file -> file.getFileName().toString()).filter(name -> name.endsWith("Test.java"))
                .forEach(name -> there.add(name.replace(".java", "")));
        }
        Check.same("README.md lists " + told + ", there are " + there, told.equals(there), true);
    }

    // ---- programs and folders

    /** What the program leaves in a folder for a while, it leaves in this one. */
    private static int exitCode(Path folder, String... command) throws IOException, InterruptedException {
        ProcessBuilder program = new ProcessBuilder(command).inheritIO();
        program.environment().put("TMPDIR", folder.toString());
        return program.start().waitFor();
    }

    private static void remove(Path folder) throws IOException {
        List<Path> all = new ArrayList<>();
        try (Stream<Path> files = Files.walk(folder)) {
            files.forEach(all::add);
        }
        all.sort(Comparator.reverseOrder());
        for (Path one : all) {
            Files.delete(one);
        }
    }
}
