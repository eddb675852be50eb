import java.io.ByteArrayOutputStream;
import java.io.IOException;
import java.io.PrintStream;
import java.nio.charset.StandardCharsets;
import java.nio.file.DirectoryStream;
import java.nio.file.Files;
import java.nio.file.Path;
import java.util.ArrayList;
import java.util.List;
import java.util.Map;

/** The example of README.md is compiled with the class and run: it prints the answers that README.md names behind "// ". */
public final class ReadmeTest {
    private static final String START = "```java\n";
    private static final String END = "```\n";
    private static final String PRINTING = "System.out.println(";
    private static final String NAMING = "; // ";

    public static void main(String[] args) throws Exception {
        String readme = Files.readString(Path.of("README.md"), StandardCharsets.UTF_8);
        Run.same("how many examples README.md has", readme.split(START, -1).length - 1, 1);
        String example = readme.substring(readme.indexOf(START) + START.length());
        example = example.substring(0, example.indexOf(END));
        compare(named(example), printed(example));
        namesEachTest(readme);
        Run.end();
    }

    /** The answers that are named; a line that prints and names none is wrong. */
    private static List<String> named(String example) {
        List<String> answers = new ArrayList<>();
        for (String line : example.split("\n")) {
            if (line.contains(PRINTING)) {
                Run.same("whether an answer is named in" + line, line.contains(NAMING), true);
                answers.add(line.substring(line.indexOf(NAMING) + NAMING.length()));
            }
        }
        return answers;
    }

    private static List<String> printed(String example) throws Exception {
        Compiled program = new Compiled(Map.of("Example", example, "Datesolo", Compiled.program()));
        ByteArrayOutputStream printed = new ByteArrayOutputStream();
        PrintStream before = System.out;
        System.setOut(new PrintStream(printed, true, StandardCharsets.UTF_8));
        try {
            program.loadClass("Example").getMethod("main", String[].class).invoke(null, (Object) new String[0]);
        } finally {
            System.setOut(before);
        }
        return printed.toString(StandardCharsets.UTF_8).lines().toList();
    }

    private static void compare(List<String> named, List<String> printed) {
        Run.same("how many answers the example prints", printed.size(), named.size());
        for (int i = 0; i < Math.min(named.size(), printed.size()); i++) {
            Run.same("the example's answer " + (i + 1), printed.get(i), named.get(i));
        }
    }

    private static void namesEachTest(String readme) throws IOException {
        try (DirectoryStream<Path> tests = Files.newDirectoryStream(Path.of("src", "test", "java"), "*Test.java")) {
            for (Path test : tests) {
                String name = test.getFileName().toString().replace(".java", "");
                Run.same("whether README.md names " + name, readme.contains("`" + name + "`"), true);
            }
        }
    }
}
