import java.io.File;
import java.io.IOException;
import java.lang.reflect.Method;
import java.lang.reflect.Modifier;
import java.nio.file.Files;
import java.nio.file.Path;
import java.util.List;
import java.util.stream.Stream;

/** README.md tells the class and its tests as they stand; it is run where README.md is. */
public final class ReadmeTest {
    private static final Checks CHECKS = new Checks();

    public static void main(String[] args) throws IOException, InterruptedException {
        String readme = Files.readString(Path.of("README.md"));
        exampleAnswersAsTold(readme);
        everyCallIsTold(readme);
        everyTestIsTold(readme);
        CHECKS.end();
    }

    private static void exampleAnswersAsTold(String readme) throws IOException, InterruptedException {
        CHECKS.sentence("README.md says how to use the class");
        List<String> printed = printedBy(block(readme, "java")).lines().toList();
        List<String> told = block(readme, "text").lines().toList();
        CHECKS.yes("the example prints " + printed + ", told is " + told, printed.equals(told));
        CHECKS.no("the example prints nothing", printed.isEmpty());
    }

    /** The first part of the text between ```kind and ```. */
    private static String block(String text, String kind) {
        String opening = "```" + kind + "\n";
        int from = text.indexOf(opening);
        int to = text.indexOf("```", from + opening.length());
        return from < 0 || to < 0 ? "" : text.substring(from + opening.length(), to);
    }

    private static String printedBy(String program) throws IOException, InterruptedException {
        Path room = Files.createTempDirectory("readme");
        try {
            String file = Files.writeString(room.resolve("Example.java"), program).toString();
            String tested = System.getProperty("java.class.path");
            String both = tested + File.pathSeparator + room;
            outputOf("javac", "-Xlint:all", "-Werror", "-cp", tested, "-d", room.toString(), file);
            return outputOf("java", "-cp", both, "Example");
        } finally {
            empty(room);
        }
    }

    // What java itself may write to its second stream is no part of the example's output.
    private static String outputOf(String... command) throws IOException, InterruptedException {
        Process process = new ProcessBuilder(command).redirectError(ProcessBuilder.Redirect.INHERIT).start();
        String output = new String(process.getInputStream().readAllBytes());
        CHECKS.same(command[0] + " ended with", process.waitFor(), 0);
        return output;
    }

    private static void empty(Path room) throws IOException {
        try (Stream<Path> files = Files.list(room)) {
            for (Path file : files.toList()) {
                Files.delete(file);
            }
        }
        Files.delete(room);
    }

    private static void everyCallIsTold(String readme) {
        CHECKS.sentence("README.md says how to use the class: every call");
        for (Method method : EchoedRounds.class.getDeclaredMethods()) {
            if (Modifier.isPublic(method.getModifiers())) {
                String opening = "`" + method.getName() + "(";
                int from = readme.indexOf(opening);
                CHECKS.yes(method + " is told", from >= 0);
                String names = from < 0 ? "" : readme.substring(from + opening.length(), readme.indexOf(')', from));
                CHECKS.same(method + ": names told", names.split(", ").length, method.getParameterCount());
            }
        }
    }

    private static void everyTestIsTold(String readme) throws IOException {
        CHECKS.sentence("and how to run its tests, as both then stand");
        List<String> told = readme.lines().filter(line -> line.matches("- `\\w+Test`:.*"))
            .map(line -> line.substring(3, line.indexOf("`:"))).sorted().toList();
        try (Stream<Path> files = Files.list(Path.of("src/test/java"))) {
            List<String> standing = files.map(file -> file.getFileName().toString())
                .filter(name -> name.endsWith("Test.java"))
                .map(name -> name.replace(".java", "")).sorted().toList();
            CHECKS.yes("told are " + told + ", there are " + standing, told.equals(standing));
        }
        CHECKS.yes("the script is told", readme.contains("    .ci/run\n"));
        CHECKS.yes("the script stands", Files.isExecutable(Path.of(".ci/run")));
    }
}
