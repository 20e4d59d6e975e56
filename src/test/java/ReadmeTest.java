import java.io.IOException;
import java.lang.reflect.Method;
import java.lang.reflect.Modifier;
import java.nio.charset.StandardCharsets;
import java.nio.file.DirectoryStream;
import java.nio.file.Files;
import java.nio.file.Path;
import java.util.Set;
import java.util.TreeSet;
import java.util.regex.Matcher;
import java.util.regex.Pattern;

/** README.md tells what is so: its commands are run as they are written there. */
public final class ReadmeTest {
    private static final Due T = new Due("ReadmeTest");
    private static final Path TESTS = Path.of("src/test/java");
    private static final Path PROGRAM = Path.of("src/main/java/LiveUpgrader.java");
    private static final Path BUILD = Path.of("build");
    private static final int PROMISES = 29;

    private static String text;

    public static void main(String[] args) throws IOException, InterruptedException {
        text = Files.readString(Path.of("README.md"));
        example();
        commandOfTheTests();
        methods();
        tests();
        promises();
        T.end();
    }

    private static void check(String what, Object got, Object want) {
        boolean same = got.equals(want);
        T.due(same ? 1 : 0, 1);
        if (!same) {
            T.fail(what + ": " + got + ", due is " + want);
        }
    }

    /** What stands in that block of that kind, the first one being 0; empty if there is none. */
    private static String block(String kind, int index) {
        Matcher matcher = Pattern.compile("(?s)```" + kind + "\n(.*?)```").matcher(text);
        for (int i = 0; matcher.find(); i++) {
            if (i == index) {
                return matcher.group(1);
            }
        }
        return "";
    }

    /** A new folder each time, so that nothing compiled earlier answers for the example. */
    private static void example() throws IOException, InterruptedException {
        Path folder = Files.createTempDirectory(Files.createDirectories(BUILD), "readme");
        Path copy = folder.resolve(PROGRAM);
        Files.createDirectories(copy.getParent());
        Files.copy(PROGRAM, copy);
        Files.writeString(folder.resolve("Example.java"), block("java", 0));
        StringBuilder output = new StringBuilder();
        for (String command : block("sh", 0).split("\n")) {
            output.append(run(command, folder));
        }
        check("the example prints", output.toString(), block("text", 0));
        T.due(output.length() > 0 ? 1 : 0, 1);
    }

    private static String run(String command, Path folder)
            throws IOException, InterruptedException {
        Process process = new ProcessBuilder(command.split(" ")).directory(folder.toFile())
                .redirectErrorStream(true).start();
        byte[] output = process.getInputStream().readAllBytes();
        check(command + " ends", process.waitFor(), 0);
        return new String(output, StandardCharsets.UTF_8);
    }

    private static void commandOfTheTests() {
        check("the tests are run by", block("sh", 1), ".ci/run\n");
        check(".ci/run can be run", Files.isExecutable(Path.of(".ci/run")), true);
        Matcher alone = Pattern.compile("java -cp build/project (\\w+)\n").matcher(block("sh", 2));
        check("a test is run alone", alone.matches(), true);
        if (alone.matches()) {
            Path test = TESTS.resolve(alone.group(1) + ".java");
            check("the test that is run alone is there", Files.exists(test), true);
        }
    }

    private static void methods() {
        Set<String> there = new TreeSet<>();
        for (Method method : LiveUpgrader.class.getDeclaredMethods()) {
            if (Modifier.isPublic(method.getModifiers())) {
                there.add(method.getName());
            }
        }
        Set<String> named = new TreeSet<>();
        for (String line : text.split("\n")) {
            if (line.matches("\\| (`\\w+`(, )?)+ \\| .*") && !line.contains("Test`")) {
                Matcher name = Pattern.compile("`(\\w+)`").matcher(line.split("\\|")[1]);
                while (name.find()) {
                    named.add(name.group(1));
                }
            }
        }
        check("the methods named", named, there);
    }

    private static void tests() throws IOException {
        Set<String> there = new TreeSet<>();
        try (DirectoryStream<Path> files = Files.newDirectoryStream(TESTS, "*Test.java")) {
            for (Path file : files) {
                there.add(file.getFileName().toString().replace(".java", ""));
            }
        }
        Set<String> named = new TreeSet<>();
        Matcher row = Pattern.compile("(?m)^\\| `(\\w+Test)` \\| ").matcher(text);
        while (row.find()) {
            named.add(row.group(1));
        }
        check("the tests named", named, there);
    }

    /** A row that names promises names those whose headings stand in the test's source. */
    private static void promises() throws IOException {
        Set<Integer> all = new TreeSet<>();
        Matcher row = Pattern.compile("(?m)^\\| `(\\w+Test)` \\|.*\\bpromises? ([0-9, to]+) \\|$")
                .matcher(text);
        while (row.find()) {
            Set<Integer> named = numbers(row.group(2));
            String source = Files.readString(TESTS.resolve(row.group(1) + ".java"));
            Matcher heading = Pattern.compile("\"Promise (\\d+)\"").matcher(source);
            Set<Integer> held = new TreeSet<>();
            while (heading.find()) {
                held.add(Integer.parseInt(heading.group(1)));
            }
            check("the promises of " + row.group(1), named, held);
            all.addAll(named);
        }
        Set<Integer> due = numbers("1 to " + PROMISES);
        check("the promises named", all, due);
    }

    /** "2 to 4, 7" are 2, 3, 4 and 7. */
    private static Set<Integer> numbers(String words) {
        Set<Integer> numbers = new TreeSet<>();
        for (String part : words.split(", ")) {
            String[] ends = part.split(" to ");
            int last = Integer.parseInt(ends[ends.length - 1]);
            for (int number = Integer.parseInt(ends[0]); number <= last; number++) {
                numbers.add(number);
            }
        }
        return numbers;
    }
}
