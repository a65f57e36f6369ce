import java.io.File;
import java.io.IOException;
import java.lang.reflect.Field;
import java.lang.reflect.Method;
import java.lang.reflect.Modifier;
import java.nio.charset.StandardCharsets;
import java.nio.file.Files;
import java.nio.file.Path;
import java.util.ArrayList;
import java.util.List;
import java.util.Set;
import java.util.TreeSet;
import java.util.regex.Matcher;
import java.util.regex.Pattern;
import java.util.stream.Collectors;
import java.util.stream.Stream;

/** What README.md shows as a use of the class is what the class answers, and the page names every method and test. */
public final class ReadmeTest {
    private static final Path PAGE = Path.of("README.md");
    private static final Path TESTS = Path.of("src/test/java");

    private ReadmeTest() {
    }

    public static void main(String[] args) throws IOException, InterruptedException {
        String page = Files.readString(PAGE);
        theProgramPrintsWhatItSays(programOf(page));
        everyMethodIsNamed(page);
        everyTestIsNamed(page);
        Check.finish();
    }

    private static String programOf(String page) {
        Matcher found = Pattern.compile("```java\n(.*?)```", Pattern.DOTALL).matcher(page);
        Check.isTrue(PAGE + " shows a program", found.find());
        String program = found.group(1);
        Check.isTrue(PAGE + " shows one program", !found.find());
        return program;
    }

    private static void theProgramPrintsWhatItSays(String program) throws IOException, InterruptedException {
        List<String> calls = new ArrayList<>();
        List<String> answers = new ArrayList<>();
        Matcher line = Pattern.compile("println\\((.*)\\); *// (-?\\w+)").matcher(program);
        while (line.find()) {
            calls.add(line.group(1));
            answers.add(line.group(2));
        }
        Check.due("lines of " + PAGE + " with an answer", answers.size(), program.split("println").length - 1);
        Check.isTrue("there is such a line", !answers.isEmpty());
        List<String> printed = printedBy(program);
        Check.due("lines that the program prints", printed.size(), answers.size());
        for (int i = 0; i < Math.min(printed.size(), answers.size()); i++) {
            Check.isTrue(calls.get(i) + " prints " + printed.get(i) + ", " + PAGE + " says " + answers.get(i),
                    printed.get(i).equals(answers.get(i)));
        }
    }

    private static List<String> printedBy(String program) throws IOException, InterruptedException {
        Path place = Files.createTempDirectory("readme");
        try {
            Path source = Files.writeString(place.resolve("Example.java"), program);
            String classes = System.getProperty("java.class.path");
            outputOf("javac", "-Xlint:all", "-Werror", "-cp", classes, "-d", place.toString(), source.toString());
            return outputOf("java", "-cp", classes + File.pathSeparator + place, "Example");
        } finally {
            clear(place);
        }
    }

    private static List<String> outputOf(String... command) throws IOException, InterruptedException {
        Process process = new ProcessBuilder(command).redirectError(ProcessBuilder.Redirect.INHERIT).start();
        String output = new String(process.getInputStream().readAllBytes(), StandardCharsets.UTF_8);
        Check.due(command[0] + " of the program of " + PAGE, process.waitFor(), 0);
        return output.lines().toList();
    }

    private static void clear(Path place) throws IOException {
        try (Stream<Path> inside = Files.list(place)) {
            for (Path file : inside.toList()) {
                Files.delete(file);
            }
        }
        Files.delete(place);
    }

    private static void everyMethodIsNamed(String page) {
        for (Method method : IrrigationTurns.class.getDeclaredMethods()) {
            dueNamed(page, method.getName(), method.getModifiers());
        }
        for (Field field : IrrigationTurns.class.getDeclaredFields()) {
            dueNamed(page, field.getName(), field.getModifiers());
        }
    }

    private static void dueNamed(String page, String name, int modifiers) {
        if (Modifier.isPublic(modifiers)) {
            Check.isTrue(PAGE + " names " + name, page.contains("`" + name + "`"));
        }
    }

    private static void everyTestIsNamed(String page) throws IOException {
        Set<String> named = new TreeSet<>();
        Matcher row = Pattern.compile("^\\| `(\\w+Test)` \\|", Pattern.MULTILINE).matcher(page);
        while (row.find()) {
            named.add(row.group(1));
        }
        try (Stream<Path> files = Files.list(TESTS)) {
            Set<String> there = files.map(file -> file.getFileName().toString())
                    .filter(file -> file.endsWith("Test.java"))
                    .map(file -> file.substring(0, file.length() - ".java".length()))
                    .collect(Collectors.toCollection(TreeSet::new));
            Check.isTrue(PAGE + " names the tests " + named + ", there are " + there, named.equals(there));
        }
        Check.isTrue(PAGE + " says how to run them", page.contains("\n    .ci/run\n"));
        Check.isTrue(".ci/run can be run", Files.isExecutable(Path.of(".ci/run")));
    }
}
