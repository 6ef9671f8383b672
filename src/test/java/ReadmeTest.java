import java.io.IOException;
import java.nio.file.Files;
import java.nio.file.Path;
import java.util.ArrayList;
import java.util.List;
import java.util.TreeSet;
import java.util.regex.Matcher;
import java.util.regex.Pattern;
import java.util.stream.Collectors;
import java.util.stream.Stream;

/** What README.md says holds as it is written there: its example, its commands and its list of tests. */
public final class ReadmeTest {
    private static final String CI = ".ci/run\n";

    private final String readme;
    private final Path folder;

    private ReadmeTest(String readme, Path folder) {
        this.readme = readme;
        this.folder = folder;
    }

    public static void main(String[] args) throws Exception {
        Path folder = Files.createTempDirectory("readme");
        try {
            ReadmeTest test = new ReadmeTest(Files.readString(Path.of("README.md")), folder);
            test.example();
            test.commands();
            test.listOfTests();
            test.paths();
        } finally {
            remove(folder);
        }
        Check.end("ReadmeTest");
    }

    /** The texts of the blocks of one kind. */
    private List<String> blocks(String kind) {
        Matcher matcher = Pattern.compile("```" + kind + "\n(.*?)```", Pattern.DOTALL).matcher(readme);
        List<String> all = new ArrayList<>();
        while (matcher.find()) {
            all.add(matcher.group(1));
        }
        return all;
    }

    /** The example prints what README.md says, compiled and run by the command that stands there. */
    private void example() throws Exception {
        Files.writeString(folder.resolve("Example.java"), String.join("", blocks("java")));
        String command = blocks("sh").get(0);
        Check.same("the first command is the example's", command.contains(" Example.java\n"), true);
        Done done = run(command);
        Check.is("exit code of the example", done.code, 0);
        Check.same("output of the example", done.output, String.join("", blocks("text")));
    }

    /** Each other command ends well; .ci/run, which runs this test, is only looked at. */
    private void commands() throws Exception {
        List<String> rest = blocks("sh");
        rest.remove(0);
        Check.same(".ci/run is among the commands", rest.remove(CI), true);
        Check.same(".ci/run can be executed", Files.isExecutable(Path.of(CI.strip())), true);
        Check.same("there are more commands", rest.isEmpty(), false);
        for (String command : rest) {
            Done done = run(command);
            Check.is("exit code of " + command, done.code, 0);
        }
    }

    private record Done(int code, String output) {
    }

    /** Runs a command in the project's folder; what it makes and the example stand in the test's own. */
    private Done run(String command) throws Exception {
        String moved = command.replace("/tmp/forge", folder + "/out").replace(" Example.java", " " + folder + "/Example.java");
        ProcessBuilder builder = new ProcessBuilder("bash", "-e", "-c", moved);
        builder.redirectError(ProcessBuilder.Redirect.INHERIT);
        Process process = builder.start();
        String output = new String(process.getInputStream().readAllBytes());
        return new Done(process.waitFor(), output);
    }

    private void listOfTests() throws IOException {
        TreeSet<String> told = new TreeSet<>();
        Matcher line = Pattern.compile("^- ((?:\\w+Test(?:, )?)+):", Pattern.MULTILINE).matcher(readme);
        while (line.find()) {
            told.addAll(List.of(line.group(1).split(", ")));
        }
        try (Stream<Path> files = Files.list(Path.of("src/test/java"))) {
            Check.same("the list of tests", told, files.map(x -> x.getFileName().toString().replace(".java", ""))
                    .collect(Collectors.toCollection(TreeSet::new)));
        }
    }

    private void paths() {
        Matcher path = Pattern.compile("(?:src|\\.\\./shared|\\.ci)/[\\w/.]*\\w").matcher(readme);
        while (path.find()) {
            Check.same(path.group() + " is there", Files.exists(Path.of(path.group())), true);
        }
    }

    private static void remove(Path path) throws IOException {
        if (Files.isDirectory(path)) {
            List<Path> inside;
            try (Stream<Path> files = Files.list(path)) {
                inside = files.toList();
            }
            for (Path one : inside) {
                remove(one);
            }
        }
        Files.delete(path);
    }
}
