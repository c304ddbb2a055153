import java.io.File;
import java.io.IOException;
import java.nio.charset.StandardCharsets;
import java.nio.file.Files;
import java.nio.file.Path;
import java.util.List;
import java.util.stream.Collectors;
import java.util.stream.Stream;

/** That README.md tells the truth: its program prints what it says, and its table has every test. */
public final class ReadmeTest {
    private ReadmeTest() {
    }

    public static void main(String[] args) throws Exception {
        String readme = Files.readString(Path.of("README.md"));
        Check.due("the program of README.md", outputOf(block(readme, "java")), block(readme, "text"));
        for (String test : tests()) {
            Check.due("README.md tells of " + test, readme.contains("`" + test + "`"), true);
        }
        Check.finish();
    }

    /** The first block of README.md that is marked so. */
    private static String block(String readme, String mark) {
        String begins = "```" + mark + "\n";
        int from = readme.indexOf(begins);
        int to = readme.indexOf("```", from + begins.length());
        return from < 0 || to < 0 ? "no block of " + mark : readme.substring(from + begins.length(), to);
    }

    private static List<String> tests() throws IOException {
        try (Stream<Path> files = Files.list(Path.of("src/test/java"))) {
            return files.map(file -> file.getFileName().toString())
                    .filter(name -> name.endsWith("Test.java"))
                    .map(name -> name.substring(0, name.length() - ".java".length()))
                    .sorted()
                    .collect(Collectors.toList());
        }
    }

    /** What the program prints; faults that javac finds are seen beside the test's own lines. */
    private static String outputOf(String program) throws Exception {
        Path directory = Files.createTempDirectory("readme");
        Path source = directory.resolve("Example.java");
        String classes = System.getProperty("java.class.path") + File.pathSeparator + directory;
        try {
            Files.writeString(source, program);
            return run("javac", "-cp", classes, "-d", directory.toString(), source.toString())
                    + run("java", "-cp", classes, "Example");
        } finally {
            Files.delete(source);
            Files.deleteIfExists(directory.resolve("Example.class"));
            Files.delete(directory);
        }
    }

    private static String run(String... command) throws Exception {
        Process process = new ProcessBuilder(command).redirectError(ProcessBuilder.Redirect.INHERIT).start();
        String printed = new String(process.getInputStream().readAllBytes(), StandardCharsets.UTF_8);
        process.waitFor();
        return printed.replace(System.lineSeparator(), "\n");
    }
}
