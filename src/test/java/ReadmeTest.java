import java.io.IOException;
import java.nio.charset.StandardCharsets;
import java.nio.file.Files;
import java.nio.file.Path;
import java.nio.file.Paths;
import java.util.ArrayList;
import java.util.Comparator;
import java.util.List;
import java.util.stream.Collectors;
import java.util.stream.Stream;

/**
 * README.md holds what it says: the example is the one that is there, its answers stand behind
 * its calls, the commands work as they are printed, and each test is named. It is run from the root.
 */
public final class ReadmeTest {
    private static final String EXAMPLE = "src/example/java/Example.java";
    private static final String ALL_TESTS = ".ci/run";

    private static final Due due = new Due();

    public static void main(String[] args) throws IOException, InterruptedException {
        String readme = textOf(Paths.get("README.md"));
        List<String> programs = blocks(readme, "java");
        due.is("the programs in README.md", List.of(textOf(Paths.get(EXAMPLE))), () -> programs);
        List<String> commands = blocks(readme, "sh");
        due.is("the commands begin with the example's", true, () -> commands.get(0).contains(EXAMPLE));
        Path copy = copyOfTheRoot();
        for (String command : commands) {
            checkCommand(command, copy);
        }
        remove(copy);
        testsAreNamed(readme);
        due.end();
    }

    private static void checkCommand(String command, Path copy) throws IOException, InterruptedException {
        if (command.trim().equals(ALL_TESTS)) {
            due.holds("all tests can be run", Files.isExecutable(Paths.get(ALL_TESTS)));
            return;
        }
        Path output = copy.resolve("output");
        Process process = new ProcessBuilder("sh", "-e", "-c", command)
                .directory(copy.resolve("main").toFile())
                .redirectErrorStream(true).redirectOutput(output.toFile()).start();
        due.is("the exit code of " + command, 0, () -> exitCodeOf(process));
        if (command.contains(EXAMPLE)) {
            due.is("what the example prints", answersBehindCalls(), () -> linesOf(output));
        }
    }

    private static int exitCodeOf(Process process) {
        try {
            return process.waitFor();
        } catch (InterruptedException e) {
            throw new IllegalStateException(e);
        }
    }

    /** What the comments behind the calls say, each up to its colon. */
    private static List<String> answersBehindCalls() throws IOException {
        return textOf(Paths.get(EXAMPLE)).lines().filter(line -> line.contains("println"))
                .map(line -> line.replaceAll(".*// ", "").replaceAll(":.*", ""))
                .collect(Collectors.toList());
    }

    private static List<String> linesOf(Path file) {
        try {
            return textOf(file).lines().collect(Collectors.toList());
        } catch (IOException e) {
            throw new IllegalStateException(e);
        }
    }

    private static void testsAreNamed(String readme) throws IOException {
        try (Stream<Path> files = Files.list(Paths.get("src/test/java"))) {
            files.map(file -> file.getFileName().toString()).filter(name -> name.endsWith("Test.java"))
                    .map(name -> name.replace(".java", ""))
                    .forEach(name -> due.holds(name + " is named in README.md", readme.contains("`" + name + "`")));
        }
    }

    /** The texts between three backquotes with this word and the next three. */
    private static List<String> blocks(String text, String word) {
        List<String> blocks = new ArrayList<>();
        String start = "```" + word + "\n";
        int at = text.indexOf(start);
        while (at >= 0) {
            int end = text.indexOf("```", at + start.length());
            if (end < 0) {
                break;
            }
            blocks.add(text.substring(at + start.length(), end));
            at = text.indexOf(start, end);
        }
        return blocks;
    }

    /** A place like the root, with ../shared beside it, so that the commands leave nothing here. */
    private static Path copyOfTheRoot() throws IOException {
        Path copy = Files.createTempDirectory("readme");
        Files.createDirectory(copy.resolve("main"));
        Files.createSymbolicLink(copy.resolve("main/src"), Paths.get("src").toAbsolutePath());
        Files.createSymbolicLink(copy.resolve("shared"), Paths.get("../shared").toRealPath());
        return copy;
    }

    private static void remove(Path directory) throws IOException {
        try (Stream<Path> files = Files.walk(directory)) {
            for (Path file : files.sorted(Comparator.reverseOrder()).collect(Collectors.toList())) {
                Files.delete(file);
            }
        }
    }

    private static String textOf(Path file) throws IOException {
        return Files.readString(file, StandardCharsets.UTF_8);
    }
}
