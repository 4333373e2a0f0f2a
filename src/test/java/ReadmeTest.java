import java.io.IOException;
import java.lang.reflect.Method;
import java.nio.file.Files;
import java.nio.file.Path;
import java.util.ArrayList;
import java.util.Comparator;
import java.util.List;
import java.util.regex.Matcher;
import java.util.regex.Pattern;
import java.util.stream.Stream;

/** What README.md shows of the use of the class is so when it is run by the commands that it names. */
public final class ReadmeTest {
    private static final Path PAGE = Path.of("README.md");
    private static final String PROGRAM = "src/main/java/BurdenCourt.java";
    private static final Pattern SHOWN = Pattern.compile("show\\((court\\..*)\\);\\s*(?://\\s*([-\\w]+))?.*");

    public static void main(String[] args) throws IOException, InterruptedException {
        Due due = new Due();
        String page = Files.readString(PAGE);
        List<String> programs = blocks(page, "java");
        List<String> commands = blocks(page, "sh");
        due.is("programs that the page shows", programs.size(), 1);
        due.is("commands that the page shows", commands.size(), 2);
        if (programs.size() == 1 && commands.size() == 2) {
            exampleIsSo(due, programs.get(0), commands.get(0));
            exampleHasTheWholeFace(due, programs.get(0));
            testsAreRunBy(due, commands.get(1));
        }
        everyTestIsNamed(due, page);
        due.finish();
    }

    private static List<String> blocks(String page, String kind) {
        List<String> blocks = new ArrayList<>();
        Matcher matcher = Pattern.compile("^```" + kind + "\\n(.*?)^```$", Pattern.DOTALL | Pattern.MULTILINE).matcher(page);
        while (matcher.find()) {
            blocks.add(matcher.group(1));
        }
        return blocks;
    }

    /** The commands are run in a place of their own, so that they leave nothing in the project. */
    private static void exampleIsSo(Due due, String program, String commands) throws IOException, InterruptedException {
        Path place = Files.createTempDirectory("readme");
        try {
            Files.createDirectories(place.resolve(PROGRAM).getParent());
            Files.copy(Path.of(PROGRAM), place.resolve(PROGRAM));
            Files.writeString(place.resolve("Example.java"), program);
            Path printed = place.resolve("printed");
            int exit = new ProcessBuilder("sh", "-e", "-c", commands).directory(place.toFile())
                .redirectError(ProcessBuilder.Redirect.INHERIT).redirectOutput(printed.toFile()).start().waitFor();
            due.is("exit code of README.md's example", exit, 0);
            compare(due, program, Files.readAllLines(printed));
        } finally {
            remove(place);
        }
    }

    private static void compare(Due due, String program, List<String> printed) {
        int line = 0;
        for (String row : program.split("\n")) {
            Matcher matcher = SHOWN.matcher(row.strip());
            if (matcher.matches()) {
                String want = matcher.group(2) == null ? "no answer stands behind it" : matcher.group(2);
                due.is("README.md: " + matcher.group(1), line < printed.size() ? printed.get(line) : "nothing", want);
                line++;
            }
        }
        due.is("rows that README.md's example prints", printed.size(), line);
    }

    private static void exampleHasTheWholeFace(Due due, String program) {
        for (Method method : BurdenCourt.class.getMethods()) {
            if (method.getDeclaringClass() == BurdenCourt.class) {
                String call = "court." + method.getName() + "(";
                due.is("README.md's example has " + call + ")", program.contains(call), true);
            }
        }
    }

    /** Not run from here, for it runs this test. */
    private static void testsAreRunBy(Due due, String command) {
        due.is("the command that runs the tests", command.strip(), ".ci/run");
        due.is(command.strip() + " can be run", Files.isExecutable(Path.of(command.strip())), true);
    }

    private static void everyTestIsNamed(Due due, String page) throws IOException {
        try (Stream<Path> files = Files.list(Path.of("src/test/java"))) {
            files.map(file -> file.getFileName().toString()).filter(name -> name.endsWith("Test.java")).forEach(name -> {
                String test = name.substring(0, name.length() - ".java".length());
                due.is("README.md names " + test, page.contains("`" + test + "`"), true);
            });
        }
    }

    private static void remove(Path place) throws IOException {
        try (Stream<Path> files = Files.walk(place)) {
            for (Path file : files.sorted(Comparator.reverseOrder()).toList()) {
                Files.delete(file);
            }
        }
    }
}
