import java.io.IOException;
import java.nio.file.DirectoryStream;
import java.nio.file.Files;
import java.nio.file.Path;
import java.util.ArrayList;
import java.util.Comparator;
import java.util.List;
import java.util.Set;
import java.util.TreeSet;
import java.util.regex.Matcher;
import java.util.regex.Pattern;
import java.util.stream.Stream;

/** README.md: its examples compile and answer as they say, its table has all tests, and its command runs them. */
public final class ReadmeTest {
    private static final Expect expect = new Expect("ReadmeTest");
    private static final Path TESTS = Path.of("src", "test", "java");
    private static final String CLASSES = System.getProperty("java.class.path");
    private static final String MAIN = "src/main/java/PinDeck.java";
    private static final Pattern EXAMPLE = Pattern.compile("(?s)```java\n(.*?)```");
    /** A whole program, how it is compiled and run, and what it prints. */
    private static final Pattern PROGRAM = Pattern.compile("(?s)```java\n(public final class (\\w+) .*?)```"
            + ".*?\n    javac -d out (\\S+) (\\S+)\n    java -cp out (\\w+)\n.*?```\n(.*?)```");
    /** A line of an example: a call, and what it answers or throws. */
    private static final Pattern ANSWER = Pattern.compile(
            "(lane\\.\\w+\\(.*\\));\\s+// (NONE|-?\\d+|throws I\\w+Exception)(:.*)?");
    private static final Pattern ROW = Pattern.compile("(?m)^\\| `(\\w+)` \\|");

    private static String inMain(String name, String lines) {
        return "public final class " + name + " {\npublic static void main(String[] args) {\n" + lines + "}\n}\n";
    }

    /** The example with a check of the answer in place of each call that has one. */
    private static String checked(String example) {
        StringBuilder all = new StringBuilder("Expect expect = new Expect(\"README.md\");\n");
        for (String line : example.split("\n")) {
            Matcher answer = ANSWER.matcher(line);
            all.append(answer.matches() ? check(answer) : line).append('\n');
        }
        return all.append("expect.end();\n").toString();
    }

    private static String check(Matcher answer) {
        String call = answer.group(1);
        String what = "(\"" + call.replace("\"", "\\\"") + "\", ";
        switch (answer.group(2)) {
            case "NONE": return "expect.same" + what + "PinDeck.NONE, " + call + ");";
            case "throws IndexOutOfBoundsException": return "expect.outOfBounds" + what + "() -> " + call + ");";
            case "throws IllegalArgumentException": return "expect.badArgument" + what + "() -> " + call + ");";
            case "throws IllegalStateException": return "expect.badState" + what + "() -> " + call + ");";
            default: return "expect.same" + what + answer.group(2) + ", " + call + ");";
        }
    }

    private static int run(String... command) throws IOException, InterruptedException {
        return new ProcessBuilder(command).inheritIO().start().waitFor();
    }

    private static void compiles(Path folder, String name, String lines) throws IOException, InterruptedException {
        Path file = folder.resolve(name + ".java");
        Files.writeString(file, inMain(name, lines));
        expect.same(name + " compiles", 0, run("javac", "-d", folder.toString(), "-cp", CLASSES, file.toString()));
    }

    private static void answers(Path folder, String name) throws IOException, InterruptedException {
        String classes = folder + System.getProperty("path.separator") + CLASSES;
        expect.same(name + " answers as README.md says", 0, run("java", "-cp", classes, name));
    }

    /** Each line that calls the lane, but for those in a loop, must say what it answers. */
    private static void answersAreSaid(String name, String example) {
        for (String line : example.split("\n")) {
            if (line.startsWith("lane.")) {
                expect.holds(name + " does not say what this answers: " + line, ANSWER.matcher(line).matches());
            }
        }
    }

    /** The lines of examples that are no whole programs. */
    private static void lines(Path folder, String readme) throws IOException, InterruptedException {
        Matcher example = EXAMPLE.matcher(readme);
        int number = 0;
        while (example.find()) {
            if (example.group(1).startsWith("public final class")) {
                continue;
            }
            number++;
            answersAreSaid("the example " + number, example.group(1));
            compiles(folder, "Lines" + number, example.group(1));
            compiles(folder, "Checked" + number, checked(example.group(1)));
            answers(folder, "Checked" + number);
        }
        expect.holds("README.md has lines of examples", number > 0);
    }

    private static void program(Path folder, String readme) throws IOException, InterruptedException {
        Matcher program = PROGRAM.matcher(readme);
        expect.holds("README.md has a program", program.find());
        String name = program.group(2);
        expect.equal("the class that is compiled", MAIN, program.group(3));
        expect.equal("the file that is compiled", name + ".java", program.group(4));
        expect.equal("the program that is run", name, program.group(5));
        Path file = folder.resolve(name + ".java");
        Path printed = folder.resolve("printed");
        Files.writeString(file, program.group(1));
        String out = folder.resolve("out").toString();
        expect.same(name + " compiles", 0, run("javac", "-d", out, MAIN, file.toString()));
        int code = new ProcessBuilder("java", "-cp", out, name).redirectErrorStream(true)
                .redirectOutput(printed.toFile()).start().waitFor();
        expect.same("the exit code of " + name, 0, code);
        expect.equal("the lines that " + name + " prints", program.group(6), Files.readString(printed));
    }

    private static void examples(String readme) throws IOException, InterruptedException {
        Path folder = Files.createTempDirectory("readme");
        try {
            program(folder, readme);
            lines(folder, readme);
        } finally {
            remove(folder);
        }
    }

    private static void remove(Path folder) throws IOException {
        List<Path> all = new ArrayList<>();
        try (Stream<Path> paths = Files.walk(folder)) {
            paths.sorted(Comparator.reverseOrder()).forEach(all::add);
        }
        for (Path path : all) {
            Files.delete(path);
        }
    }

    private static void table(String readme) throws IOException {
        Set<String> there = new TreeSet<>();
        try (DirectoryStream<Path> files = Files.newDirectoryStream(TESTS, "*Test.java")) {
            for (Path file : files) {
                there.add(file.getFileName().toString().replace(".java", ""));
            }
        }
        Set<String> told = new TreeSet<>();
        Matcher row = ROW.matcher(readme);
        while (row.find()) {
            expect.holds("README.md tells " + row.group(1) + " once", told.add(row.group(1)));
        }
        expect.equal("the tests in the table of README.md", there.toString(), told.toString());
    }

    /** What README.md names is what the script runs. */
    private static void command(String readme) throws IOException {
        Path script = Path.of(".ci", "run");
        expect.holds("README.md tells the command", readme.contains("\n    .ci/run\n"));
        expect.holds("the command is there and can be run", Files.isExecutable(script));
        String text = Files.readString(script);
        for (String files : new String[] {"src/test/java/*Test.java", "../shared/tests/*.java"}) {
            expect.holds("README.md tells " + files, readme.contains("`" + files + "`"));
            expect.holds("the command runs " + files, text.contains("(" + files + ")"));
        }
    }

    public static void main(String[] args) throws IOException, InterruptedException {
        String readme = Files.readString(Path.of("README.md"));
        examples(readme);
        table(readme);
        command(readme);
        expect.end();
    }
}
