import java.io.IOException;
import java.lang.reflect.Method;
import java.lang.reflect.Modifier;
import java.nio.file.Files;
import java.nio.file.Path;
import java.nio.file.StandardCopyOption;
import java.util.Set;
import java.util.TreeSet;
import java.util.regex.Matcher;
import java.util.regex.Pattern;
import java.util.stream.Stream;

/**
 * README.md is so: its commands, word by word, compile the program that stands in it, and that
 * prints what is said there; the files, classes and calls that it names are there, and it leaves
 * none out.
 */
public final class ReadmeTest {
    private static final Path PAGE = Path.of("README.md");
    private static final Path TESTS = Path.of("src/test/java");
    private static final Path SOURCE = Path.of("src/main/java/HexBroadsides.java");
    private static final Path DESK = Path.of("build/readme");

    public static void main(String[] args) throws IOException, InterruptedException {
        String page = Files.readString(PAGE);
        programPrintsWhatIsSaid(page);
        commandOfTheTestsIsThere(page);
        Set<String> named = namedIn(page);
        pathsAreThere(named);
        testsAreNamedAndThere(named);
        classesAreNamedAndThere(named);
        callsAreNamed(named);
        Due.finish("ReadmeTest");
    }

    // ---- the program

    private static void programPrintsWhatIsSaid(String page) throws IOException, InterruptedException {
        Files.createDirectories(DESK.resolve(SOURCE).getParent());
        Files.copy(SOURCE, DESK.resolve(SOURCE), StandardCopyOption.REPLACE_EXISTING);
        Files.writeString(DESK.resolve("Game.java"), blockBehind(page, "```java\n"));
        Set<String> commands = commandsIn(page, "javac? .*");
        Due.is("commands that compile and run the program", commands.size(), 2);
        String printed = "";
        for (String command : new String[] {"javac", "java"}) {
            for (String line : commands) {
                printed = line.startsWith(command + " ") ? outputOf(line) : printed;
            }
        }
        Due.same("the program of README.md", printed, blockBehind(page, "```text\n"));
    }

    private static String blockBehind(String page, String fence) {
        int start = page.indexOf(fence);
        int end = page.indexOf("\n```\n", Math.max(start, 0) + fence.length() - 1);
        boolean found = start >= 0 && end >= 0;
        Due.isTrue("README.md has a block behind " + fence.trim(), found);
        return found ? page.substring(start + fence.length(), end + 1) : "";
    }

    private static Set<String> commandsIn(String page, String form) {
        Set<String> found = new TreeSet<>();
        Matcher line = Pattern.compile("(?m)^ {4}(" + form + ")$").matcher(page);
        while (line.find()) {
            found.add(line.group(1));
        }
        return found;
    }

    /** What a command prints in the folder that holds the class and the program alone. */
    private static String outputOf(String command) throws IOException, InterruptedException {
        Process process = new ProcessBuilder(command.split(" ")).directory(DESK.toFile())
                .redirectError(ProcessBuilder.Redirect.INHERIT).start();
        String printed = new String(process.getInputStream().readAllBytes()).replace("\r\n", "\n");
        Due.is(command + " ended with a code that", process.waitFor(), 0);
        return printed;
    }

    private static void commandOfTheTestsIsThere(String page) {
        Due.is("commands that run the tests", commandsIn(page, "\\.ci/run").size(), 1);
        Due.isTrue(".ci/run can be run", Files.isExecutable(Path.of(".ci/run")));
    }

    // ---- names

    /** What stands between backticks, with blocks of code left out. */
    private static Set<String> namedIn(String page) {
        Set<String> named = new TreeSet<>();
        Matcher name = Pattern.compile("`([^`\\n]+)`").matcher(page.replaceAll("(?s)```.*?```", ""));
        while (name.find()) {
            named.add(name.group(1));
        }
        return named;
    }

    private static void pathsAreThere(Set<String> named) {
        int paths = 0;
        for (String name : named) {
            if (name.contains("/")) {
                paths++;
                // The folder of compiled classes is made by .ci/run, ahead of this test.
                Due.isTrue(name + " of README.md is there", Files.exists(Path.of(name)));
            }
        }
        Due.isTrue("README.md names paths", paths >= 6);
    }

    private static void testsAreNamedAndThere(Set<String> named) throws IOException {
        try (Stream<Path> files = Files.list(TESTS)) {
            for (Object file : files.toArray()) {
                String name = ((Path) file).getFileName().toString().replace(".java", "");
                boolean told = named.stream().anyMatch(n -> n.equals(name) || n.startsWith(name + "."));
                Due.isTrue("README.md names " + name, told);
            }
        }
        for (String name : named) {
            if (name.matches("[A-Z]\\w*(Test|Edges)")) {
                Due.isTrue(name + " of README.md is a test", Files.exists(TESTS.resolve(name + ".java")));
            }
        }
    }

    private static void classesAreNamedAndThere(Set<String> named) {
        Set<String> inside = new TreeSet<>();
        for (Class<?> c : HexBroadsides.class.getDeclaredClasses()) {
            inside.add(c.getSimpleName());
            Due.isTrue("README.md names the class " + c.getSimpleName(), named.contains(c.getSimpleName()));
        }
        for (String name : named) {
            if (name.matches("[A-Z]\\w*") && !name.endsWith("Exception")) {
                Due.isTrue(name + " of README.md is a class",
                        inside.contains(name) || Files.exists(TESTS.resolve(name + ".java")));
            }
        }
    }

    private static void callsAreNamed(Set<String> named) {
        Set<String> calls = new TreeSet<>();
        for (Method m : HexBroadsides.class.getDeclaredMethods()) {
            if (Modifier.isPublic(m.getModifiers())) {
                calls.add(m.getName());
                Due.isTrue("README.md names the call " + m.getName(), named.contains(m.getName()));
            }
        }
        for (String name : named) {
            if (name.matches("[a-z]\\w*") && !name.matches("what|java|javac")) {
                Due.isTrue(name + " of README.md is a call", calls.contains(name));
            }
        }
    }
}
