import java.io.IOException;
import java.nio.file.Files;
import java.nio.file.Path;
import java.util.ArrayList;
import java.util.Comparator;
import java.util.List;
import java.util.Set;
import java.util.TreeSet;
import java.util.regex.Matcher;
import java.util.regex.Pattern;
import java.util.stream.Stream;

/** What README.md shows of the class answers so, its commands work, and it names all tests. */
public final class ReadmeTest {
    private static final Path README = Path.of("README.md");
    private static final Path TESTS = Path.of("src/test/java");
    private static final String SOURCE = "src/main/java/FilterRules.java";
    /** It runs this very test, so here it is only looked at. */
    private static final String RUN_ALL = ".ci/run";
    private static final Pattern CALL = Pattern.compile("(?:int (\\w+) = )?(book\\..*\\)); +// (.*)");
    private static final Pattern THROWS = Pattern.compile("throws (\\w+)");
    private static final Pattern TEST_NAME = Pattern.compile("\\b[A-Z]\\w*Test\\b");

    private ReadmeTest() {
    }

    public static void main(String[] args) throws IOException, InterruptedException {
        List<String> lines = Files.readAllLines(README);
        Path folder = Files.createTempDirectory("readme");
        try {
            example(blocks(lines, "java"), folder);
            commands(blocks(lines, "sh"), folder);
        } finally {
            remove(folder);
        }
        namesOfTests(String.join("\n", lines));
        Due.end();
    }

    /** The text of each block, its lines parted by line ends. */
    private static List<String> blocks(List<String> lines, String language) {
        List<String> found = new ArrayList<>();
        List<String> block = null;
        for (String line : lines) {
            boolean edge = line.startsWith("```");
            if (edge && block != null) {
                found.add(String.join("\n", block));
                block = null;
            } else if (line.equals("```" + language)) {
                block = new ArrayList<>();
            } else if (block != null) {
                block.add(line);
            }
        }
        Due.answers(true, "README has blocks of " + language, () -> !found.isEmpty());
        return found;
    }

    /** Makes a program of the shown calls, which prints a line for each, and runs it. */
    private static void example(List<String> shown, Path folder)
            throws IOException, InterruptedException {
        StringBuilder body = new StringBuilder();
        List<String> calls = new ArrayList<>();
        List<String> due = new ArrayList<>();
        for (String line : String.join("\n", shown).split("\n")) {
            Matcher call = CALL.matcher(line);
            if (line.equals("FilterRules book = new FilterRules();")) {
                body.append(line).append('\n');
            } else if (call.matches()) {
                calls.add(call.group(2));
                due.add(dueOf(call.group(3)));
                body.append(statementOf(call.group(1), call.group(2)));
            } else {
                Due.same("a call and what it answers", "the line of README", line);
            }
        }
        List<String> got = runProgram(body.toString(), folder);
        Due.same(String.valueOf(calls.size()), "the number of answers",
            String.valueOf(got.size()));
        for (int i = 0; i < calls.size() && i < got.size(); i++) {
            Due.same(due.get(i), "README: " + calls.get(i), got.get(i));
        }
    }

    /** What the comment tells up to its first comma, as it is printed. */
    private static String dueOf(String comment) {
        Matcher thrown = THROWS.matcher(comment);
        if (thrown.matches()) {
            return "throws." + thrown.group(1);
        }
        int comma = comment.indexOf(',');
        String answer = comma < 0 ? comment : comment.substring(0, comma);
        return answer.replace("'", "").replaceAll("(?<=\\d)f$", "");
    }

    private static String statementOf(String variable, String call) {
        return variable == null
            ? "tell(() -> " + call + ");\n"
            : "int " + variable + " = " + call + ";\ntell(() -> " + variable + ");\n";
    }

    private static List<String> runProgram(String body, Path folder)
            throws IOException, InterruptedException {
        Path program = folder.resolve("Shown.java");
        Files.writeString(program, """
            final class Shown {
            interface Call { Object answer(); }
            static void tell(Call call) {
            try { System.out.println(call.answer()); }
            catch (RuntimeException e) { System.out.println("throws." + e.getClass().getSimpleName()); }
            }
            public static void main(String[] args) {
            """ + body + "}\n}\n");
        Due.same("0", "javac of what README shows", String.valueOf(
            run(folder, "javac", "-d", folder.toString(), SOURCE, program.toString()).exitCode));
        Finished shown = run(folder, "java", "-cp", folder.toString(), "Shown");
        Due.same("0", "java of what README shows", String.valueOf(shown.exitCode));
        return shown.printed;
    }

    private record Finished(int exitCode, List<String> printed) {
    }

    /** Runs a command at the project's root; what it puts by for a while is put into the folder. */
    private static Finished run(Path folder, String... command)
            throws IOException, InterruptedException {
        ProcessBuilder builder = new ProcessBuilder(command);
        builder.redirectError(ProcessBuilder.Redirect.INHERIT);
        builder.environment().put("TMPDIR", folder.toString());
        Process process = builder.start();
        process.getOutputStream().close();
        List<String> printed = new String(process.getInputStream().readAllBytes()).lines().toList();
        return new Finished(process.waitFor(), printed);
    }

    private static void commands(List<String> shown, Path folder)
            throws IOException, InterruptedException {
        for (String block : shown) {
            if (!block.equals(RUN_ALL)) {
                Finished finished = run(folder, "sh", "-e", "-c", block);
                Due.same("0", "the exit code of: " + block, String.valueOf(finished.exitCode));
                Due.answers(true, "it prints something: " + block,
                    () -> !finished.printed.isEmpty());
            }
        }
        Due.answers(true, "README shows " + RUN_ALL, () -> shown.contains(RUN_ALL));
        Due.answers(true, RUN_ALL + " can be run", () -> Files.isExecutable(Path.of(RUN_ALL)));
    }

    private static void namesOfTests(String readme) throws IOException {
        Set<String> named = new TreeSet<>();
        Matcher name = TEST_NAME.matcher(readme);
        while (name.find()) {
            named.add(name.group());
        }
        Set<String> there = new TreeSet<>();
        try (Stream<Path> files = Files.list(TESTS)) {
            files.map(file -> file.getFileName().toString().replace(".java", ""))
                .filter(file -> file.endsWith("Test")).forEach(there::add);
        }
        Due.same(there.toString(), "the tests that README names", named.toString());
    }

    private static void remove(Path folder) throws IOException {
        try (Stream<Path> inside = Files.walk(folder)) {
            for (Path path : inside.sorted(Comparator.reverseOrder()).toList()) {
                Files.delete(path);
            }
        }
    }
}
