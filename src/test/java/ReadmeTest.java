import java.io.File;
import java.io.IOException;
import java.nio.file.Files;
import java.nio.file.Path;
import java.util.ArrayList;
import java.util.List;
import java.util.regex.Matcher;
import java.util.regex.Pattern;

/**
 * What README.md shows as a use of the class: each program in it is compiled and run as it stands
 * there, and prints the answers that the comments behind its calls tell; and the tests that it names
 * are those that there are.
 */
public final class ReadmeTest {
    private static final Path CLASS = Path.of("src/main/java/PlanCertificates.java");
    private static final Path TESTS = Path.of("src/test/java");

    public static void main(String[] args) throws IOException, InterruptedException {
        String readme = Files.readString(Path.of("README.md"));
        List<String> programs = programsOf(readme);
        Checks.due("README.md shows programs", programs.isEmpty() ? 0 : 1, 1);
        for (String program : programs) {
            compileAndRun(program);
        }
        int tests = readme.indexOf("## Tests");
        Checks.due("README.md tells of its tests", tests > 0 ? 1 : 0, 1);
        namesItsTests(readme.substring(Math.max(tests, 0)));
        Checks.finish();
    }

    private static List<String> programsOf(String readme) {
        List<String> programs = new ArrayList<>();
        Matcher block = Pattern.compile("(?ms)^```java\\n(.*?)^```$").matcher(readme);
        while (block.find()) {
            programs.add(block.group(1));
        }
        return programs;
    }

    private static void compileAndRun(String program) throws IOException, InterruptedException {
        Matcher named = Pattern.compile("public final class (\\w+)").matcher(program);
        Checks.due("a program has a class", named.find() ? 1 : 0, 1);
        String name = named.group(1);
        Path place = Files.createTempDirectory("readme");
        Path source = place.resolve(name + ".java");
        Files.writeString(source, program);
        List<String> said = run("javac", "-Xlint:all", "-Werror", "--release", "17", "-d", place.toString(),
                CLASS.toString(), source.toString());
        Checks.dueText("javac of " + name, said.toString(), "[]");
        List<String> answers = run("java", "-cp", place.toString(), name);
        List<String> due = answersToldIn(program);
        Checks.due(name + " tells answers", due.isEmpty() ? 0 : 1, 1);
        Checks.dueText(name, answers.toString(), due.toString());
        for (File file : place.toFile().listFiles()) {
            Files.delete(file.toPath());
        }
        Files.delete(place);
    }

    /** All lines that a command prints, and its exit code as the last one if it is not 0. */
    private static List<String> run(String... command) throws IOException, InterruptedException {
        Process process = new ProcessBuilder(command).redirectErrorStream(true).start();
        String printed = new String(process.getInputStream().readAllBytes());
        List<String> lines = new ArrayList<>(printed.lines().toList());
        int code = process.waitFor();
        if (code != 0) {
            lines.add("exit code " + code);
        }
        return lines;
    }

    /** Behind a call stands what it answers, up to a colon: "tell(x.model());  // 1: it is a model". */
    private static List<String> answersToldIn(String program) {
        List<String> told = new ArrayList<>();
        Pattern line = Pattern.compile("\\s*tell\\(.*\\);\\s+// ([^:]+)(: .*)?");
        for (String each : program.split("\n")) {
            Matcher call = line.matcher(each);
            if (call.matches()) {
                told.add(call.group(1));
            } else {
                Checks.due("no answer behind '" + each + "'", each.contains(" tell(x") ? 1 : 0, 0);
            }
        }
        return told;
    }

    /** A row of the table for each test, but that all promises may stand in one. */
    private static void namesItsTests(String section) throws IOException {
        Matcher named = Pattern.compile("(?m)^\\| (\\w+)").matcher(section);
        List<String> names = new ArrayList<>();
        while (named.find()) {
            names.add(named.group(1));
        }
        names.remove("test");
        for (String name : names) {
            Checks.due(name + " is there", Files.exists(TESTS.resolve(name + ".java")) ? 1 : 0, 1);
        }
        for (File file : TESTS.toFile().listFiles()) {
            String name = file.getName().replace(".java", "");
            boolean isTest = Files.readString(file.toPath()).contains("public static void main");
            boolean isNamed = names.contains(name) || name.startsWith("Promise");
            Checks.due(name + " is named in README.md", isTest && !isNamed ? 0 : 1, 1);
        }
    }
}
