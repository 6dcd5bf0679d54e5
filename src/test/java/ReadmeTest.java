import java.io.IOException;
import java.lang.reflect.Method;
import java.lang.reflect.Modifier;
import java.nio.file.DirectoryStream;
import java.nio.file.Files;
import java.nio.file.Path;
import java.util.regex.Matcher;
import java.util.regex.Pattern;

/** README.md: its example prints what it tells, and it names every call of the face and every test. */
public final class ReadmeTest {
    private static final Check check = new Check();

    public static void main(String[] args) throws IOException, InterruptedException {
        String readme = Files.readString(Path.of("README.md"));
        theExamplePrintsWhatIsTold(block(readme, "java"), block(readme, "text"));
        everyCallIsNamed(readme);
        everyTestIsNamed(readme);
        check.holds("the script that runs the tests is not named", readme.contains("\n    .ci/run\n"));
        check.end();
    }

    private static String block(String readme, String kind) {
        Matcher block = Pattern.compile("```" + kind + "\n(.*?)```", Pattern.DOTALL).matcher(readme);
        boolean found = block.find();
        check.holds("there is no block of " + kind, found);
        return found ? block.group(1) : "";
    }

    private static void theExamplePrintsWhatIsTold(String example, String told)
            throws IOException, InterruptedException {
        Path folder = Files.createTempDirectory("readme");
        Path source = Files.writeString(folder.resolve("Example.java"), example);
        outputOf("javac", "-d", folder.toString(), "src/main/java/JudgedRuns.java", source.toString());
        String printed = outputOf("java", "-cp", folder.toString(), "Example");
        check.holds("the example printed:\n" + printed + "told is:\n" + told, printed.equals(told));
        removeWithFiles(folder);
    }

    private static String outputOf(String... command) throws IOException, InterruptedException {
        // What Java says of its environment goes to the other stream, and is no part of the output.
        Process process = new ProcessBuilder(command).redirectError(ProcessBuilder.Redirect.INHERIT).start();
        String output = new String(process.getInputStream().readAllBytes());
        check.due("exit code of " + String.join(" ", command), 0, process.waitFor());
        return output.replace("\r\n", "\n");
    }

    private static void removeWithFiles(Path folder) throws IOException {
        try (DirectoryStream<Path> files = Files.newDirectoryStream(folder)) {
            for (Path file : files) {
                Files.delete(file);
            }
        }
        Files.delete(folder);
    }

    private static void everyCallIsNamed(String readme) {
        for (Method method : JudgedRuns.class.getDeclaredMethods()) {
            if (Modifier.isPublic(method.getModifiers())) {
                String arguments = "[a-z]+" + ", [a-z]+".repeat(method.getParameterCount() - 1);
                Pattern call = Pattern.compile("\\| .*`" + method.getName() + "\\(" + arguments + "\\)`.* \\| .+ \\|");
                check.holds(method.getName() + " is not told with its arguments", call.matcher(readme).find());
            }
        }
    }

    private static void everyTestIsNamed(String readme) throws IOException {
        try (DirectoryStream<Path> files = Files.newDirectoryStream(Path.of("src/test/java"), "*Test.java")) {
            for (Path file : files) {
                String name = file.getFileName().toString().replace(".java", "");
                check.holds(name + " is not named", readme.contains("| `" + name + "` | "));
            }
        }
    }
}
