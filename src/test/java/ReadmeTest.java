import java.io.IOException;
import java.nio.file.DirectoryStream;
import java.nio.file.Files;
import java.nio.file.Path;
import java.util.regex.Matcher;
import java.util.regex.Pattern;

/**
 * The examples of README.md answer as README.md says, and it names every test.
 *
 * <p>The examples are read from the file itself, so that neither can change without the other.
 */
public final class ReadmeTest {
    private static final String NEW_YARD = "TimeoutYard yard = new TimeoutYard();";
    /** A call, and behind it what it answers or throws; behind a colon stands what that means. */
    private static final Pattern CALL =
            Pattern.compile("yard\\.(\\w+)\\(([-0-9, ]*)\\); +// (?:throws )?(-?[0-9]+|[A-Z]\\w+)(?:: .*)?");

    private static TimeoutYard yard = null;
    private static int examples = 0;

    public static void main(String[] args) throws IOException {
        String readme = Files.readString(Path.of("README.md"));
        doExamples(readme);
        Due.same("README.md has examples", String.valueOf(examples > 0), "true");
        namesEveryTest(readme);
        Due.finish();
    }

    private static void doExamples(String readme) {
        boolean isExample = false;
        for (String line : readme.split("\n")) {
            if (line.startsWith("```")) {
                isExample = line.equals("```java");
            } else if (isExample && !line.isEmpty()) {
                doLine(line);
            }
        }
    }

    private static void doLine(String line) {
        Matcher call = CALL.matcher(line);
        if (line.equals(NEW_YARD)) {
            yard = new TimeoutYard();
            examples++;
        } else if (yard != null && call.matches()) {
            int[] arguments = numbers(call.group(2));
            Due.same("README.md: " + line, Due.outcome(() -> answer(call.group(1), arguments)), call.group(3));
        } else {
            Due.same("README.md", line, "a new yard, or a call with its answer");
        }
    }

    private static int[] numbers(String list) {
        if (list.isEmpty()) {
            return new int[0];
        }
        String[] parts = list.split(", ");
        int[] numbers = new int[parts.length];
        for (int i = 0; i < parts.length; i++) {
            numbers[i] = Integer.parseInt(parts[i]);
        }
        return numbers;
    }

    private static int answer(String name, int[] x) {
        switch (name + "/" + x.length) {
            case "action/3": return yard.action(x[0], x[1], x[2]);
            case "test/4": return yard.test(x[0], x[1], x[2], x[3]);
            case "workers/1": return yard.workers(x[0]);
            case "run/0": return yard.run();
            case "look/2": return yard.look(x[0], x[1]);
            case "note/1": return yard.note(x[0]);
            case "warning/1": return yard.warning(x[0]);
            case "count/1": return yard.count(x[0]);
            default: throw new UnsupportedOperationException();
        }
    }

    private static void namesEveryTest(String readme) throws IOException {
        try (DirectoryStream<Path> tests = Files.newDirectoryStream(Path.of("src/test/java"), "*Test.java")) {
            for (Path test : tests) {
                String name = test.getFileName().toString().replace(".java", "");
                Due.same("README.md names " + name, String.valueOf(readme.contains("| `" + name + "` |")), "true");
            }
        }
    }
}
