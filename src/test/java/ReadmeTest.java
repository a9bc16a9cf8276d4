import java.io.IOException;
import java.nio.file.Files;
import java.nio.file.Path;
import java.util.ArrayList;
import java.util.Comparator;
import java.util.List;
import java.util.regex.Matcher;
import java.util.regex.Pattern;
import java.util.stream.Stream;

/** README.md is tried: its example by the commands that it tells, and whether it names each test. */
public final class ReadmeTest {
    private static final Path README = Path.of("README.md");
    private static final Path SOURCE = Path.of("src/main/java/SchoolBoard.java");
    private static final Path TESTS = Path.of("src/test/java");
    private static final Pattern ANSWER = Pattern.compile("// (-?\\d+|true|false): ");
    private static final Pattern COMMAND = Pattern.compile(" {4}(javac? .*)");
    private static final Pattern TEST = Pattern.compile("`(\\w+Test)`");
    private static final Checks c = new Checks();

    public static void main(String[] args) throws IOException, InterruptedException {
        List<String> lines = Files.readAllLines(README);
        example(lines);
        tests(lines);
        c.end();
    }

    private static void example(List<String> lines) throws IOException, InterruptedException {
        c.of("1 to 46, README.md's example");
        List<String> program = blockOf(lines);
        List<String> due = new ArrayList<>();
        for (String line : program) {
            Matcher answer = ANSWER.matcher(line);
            if (answer.find()) {
                due.add(answer.group(1));
            }
        }
        c.yes("has some calls with their answers", due.size() > 20);
        Path place = Files.createTempDirectory("readme");
        try {
            Files.createDirectories(place.resolve(SOURCE).getParent());
            Files.copy(SOURCE, place.resolve(SOURCE));
            Files.write(place.resolve("Example.java"), program);
            List<String> commands = commandsWith(lines, "Example");
            c.due("commands", 2, commands.size());
            List<String> printed = new ArrayList<>();
            for (String command : commands) {
                printed.addAll(run(command, place, place.resolve("printed")));
            }
            c.same("what it prints", due, printed);
        } finally {
            remove(place);
        }
    }

    private static List<String> blockOf(List<String> lines) {
        int start = lines.indexOf("```java") + 1;
        List<String> behind = lines.subList(start, lines.size());
        return behind.subList(0, Math.max(0, behind.indexOf("```")));
    }

    private static List<String> commandsWith(List<String> lines, String word) {
        List<String> commands = new ArrayList<>();
        for (String line : lines) {
            Matcher command = COMMAND.matcher(line);
            if (command.matches() && line.contains(word)) {
                commands.add(command.group(1));
            }
        }
        return commands;
    }

    /** What a command of README.md prints, run from a directory; it must end well. */
    private static List<String> run(String command, Path from, Path printed) throws IOException, InterruptedException {
        int exit = new ProcessBuilder("sh", "-c", command).directory(from.toFile()).redirectErrorStream(true)
                .redirectOutput(printed.toFile()).start().waitFor();
        c.due(command, 0, exit);
        return Files.readAllLines(printed);
    }

    private static void tests(List<String> lines) throws IOException, InterruptedException {
        c.of("README.md's list of tests");
        String whole = String.join("\n", lines);
        try (Stream<Path> files = Files.list(TESTS)) {
            for (Path file : files.sorted().toList()) {
                String name = file.getFileName().toString();
                if (name.endsWith("Test.java")) {
                    c.yes("names " + name, whole.contains("`" + name.replace(".java", "") + "`"));
                }
            }
        }
        Matcher named = TEST.matcher(whole);
        while (named.find()) {
            c.yes("names what is there: " + named.group(1), Files.exists(TESTS.resolve(named.group(1) + ".java")));
        }
        Path place = Files.createTempDirectory("readme");
        try {
            List<String> commands = commandsWith(lines, "Test");
            c.due("commands for one test alone", 2, commands.size());
            for (String command : commands) {
                String elsewhere = command.replace("-d build", "-d " + place).replace("-cp build", "-cp " + place);
                run(elsewhere, Path.of("."), place.resolve("printed"));
            }
        } finally {
            remove(place);
        }
    }

    private static void remove(Path place) throws IOException {
        try (Stream<Path> all = Files.walk(place)) {
            for (Path each : all.sorted(Comparator.reverseOrder()).toList()) {
                Files.delete(each);
            }
        }
    }
}
