import java.io.IOException;
import java.nio.file.Files;
import java.nio.file.Path;
import java.util.List;
import java.util.regex.Pattern;

/** Looks for what ../shared/LANGUAGE.md rules out, as far as the bare text shows it. */
public final class LanguageTest {
    private static final Path SOURCE = Path.of("src/main/java/FilterRules.java");
    private static final Pattern RULED_OUT = Pattern.compile(
        "->|::|Exact\\(|\\bstatic \\{|[^\\x00-\\x7f]|\\bSystem\\.(?!arraycopy)"
            + "|\\b(try|catch|finally|assert|synchronized|var|package|protected|getMessage)\\b");
    private static final List<String> IMPORTS = List.of(
        "import java.util.Arrays;", "import java.util.NoSuchElementException;");
    private static final int LONGEST_METHOD = 60;

    private LanguageTest() {
    }

    public static void main(String[] args) throws IOException {
        int opened = 0;
        int number = 0;
        for (String line : Files.readAllLines(SOURCE)) {
            number++;
            String place = "line " + number + ", '" + line + "':";
            boolean comment = line.strip().startsWith("*") || line.strip().startsWith("/");
            Due.answers(false, place + " ruled out",
                () -> !comment && RULED_OUT.matcher(line).find());
            Due.answers(true, place + " an import of the library",
                () -> !line.startsWith("import") || IMPORTS.contains(line));
            if (line.matches(" {4,8}\\S.*\\{")) {
                opened = number;
            }
            int length = number - opened;
            Due.answers(true, place + " the end of a short method",
                () -> !line.matches(" {4,8}\\}") || length <= LONGEST_METHOD);
        }
        Due.end();
    }
}
