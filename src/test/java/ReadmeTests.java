import java.io.IOException;
import java.lang.reflect.Method;
import java.lang.reflect.Modifier;
import java.nio.charset.StandardCharsets;
import java.nio.file.DirectoryStream;
import java.nio.file.Files;
import java.nio.file.Path;
import java.util.ArrayList;
import java.util.List;
import java.util.regex.Matcher;
import java.util.regex.Pattern;

/** README.md: its example is compiled and run, and must print what stands there; it names every call and every test. */
public final class ReadmeTests {
    private static final String PROGRAM = "src/main/java/MendedProgram.java";
    private static int wrong;

    public static void main(String[] args) throws IOException, InterruptedException {
        String page = Files.readString(Path.of("README.md"));
        example(block(page, "java"), block(page, "text"));
        names(page);
        System.out.println("ReadmeTests: " + wrong + " wrong");
        if (wrong != 0) System.exit(1);
    }

    private static void due(boolean right, String told) {
        if (!right) {
            wrong++;
            System.out.println("ReadmeTests: " + told);
        }
    }

    private static String block(String page, String kind) {
        Matcher m = Pattern.compile("(?s)\n```" + kind + "\n(.*?)\n```\n").matcher(page);
        boolean there = m.find();
        due(there, "no block of " + kind);
        return there ? m.group(1) + "\n" : "";
    }

    private static void example(String program, String printed) throws IOException, InterruptedException {
        Path dir = Files.createTempDirectory("readme");
        try {
            Path source = dir.resolve("Example.java");
            Files.writeString(source, program);
            String compiling = run("javac", "-encoding", "UTF-8", "-d", dir.toString(), PROGRAM, source.toString());
            due(compiling.equals("exit 0"), "javac of the example: " + compiling);
            String running = run("java", "-ea", "-cp", dir.toString(), "Example");
            due(running.equals(printed + "exit 0"), "the example printed\n" + running);
        } finally {
            remove(dir);
        }
    }

    /** What it printed, and how it ended. */
    private static String run(String... command) throws IOException, InterruptedException {
        Process p = new ProcessBuilder(command).redirectErrorStream(true).start();
        String printed = new String(p.getInputStream().readAllBytes(), StandardCharsets.UTF_8);
        return printed.replace("\r", "") + "exit " + p.waitFor();
    }

    private static void remove(Path dir) throws IOException {
        List<Path> files = new ArrayList<>();
        try (DirectoryStream<Path> in = Files.newDirectoryStream(dir)) {
            for (Path file : in) files.add(file);
        }
        for (Path file : files) Files.delete(file);
        Files.delete(dir);
    }

    private static void names(String page) throws IOException {
        for (Method m : MendedProgram.class.getDeclaredMethods()) {
            if (Modifier.isPublic(m.getModifiers())) due(page.contains("`" + m.getName() + "`"), m.getName() + " is not named");
        }
        try (DirectoryStream<Path> tests = Files.newDirectoryStream(Path.of("src/test/java"), "*.java")) {
            for (Path test : tests) {
                String name = test.getFileName().toString().replace(".java", "");
                due(page.contains("`" + name + "`"), name + " is not named");
            }
        }
        due(page.contains("bash .ci/run"), "how the tests are run is not told");
    }
}
