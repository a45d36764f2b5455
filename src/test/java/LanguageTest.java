import java.io.IOException;
import java.nio.file.Files;
import java.nio.file.Path;
import java.util.regex.Matcher;
import java.util.regex.Pattern;

/** Some rules of LANGUAGE.md that a look at the source can check; run in the project's folder, as .ci/run does. */
final class LanguageTest {
    private static final Path SOURCE = Path.of("src/main/java/CinemaProgramme.java");
    /** What may not stand in the program, comments and texts left out. */
    private static final String[] FORBIDDEN = {
        "->", "::", "\\b(finally|synchronized|assert|var|default\\s+void|package|protected|volatile|native)\\b",
        "\\b(hashCode|equals|toString|getClass|Exact)\\b", "\\bcatch\\b", "\\bstatic\\s*\\{",
        "\"\\s*\\+|\\+\\s*\"", "import (?!java\\.util\\.NoSuchElementException;)", "\\bstatic (?!final|class|int|boolean)",
        "\\bnew (?!State|History|Rules|Reader|Table|StringBuilder|int\\[|\\w+Exception\\(\")",
    };

    private LanguageTest() {
    }

    public static void main(String[] args) throws IOException {
        Check check = new Check("LanguageTest");
        String source = Files.readString(SOURCE);
        check.due("signs above 127", 0, () -> source.chars().filter(sign -> sign > 127).count());
        String code = source.replaceAll("(?s)/\\*.*?\\*/", "").replaceAll("//.*", "")
                .replaceAll("\"[^\"]*\"", "\"\"");
        for (String pattern : FORBIDDEN) {
            Matcher matcher = Pattern.compile(pattern).matcher(code);
            boolean isFound = matcher.find();
            check.same("what the language rules out, as " + pattern, "", isFound ? matcher.group() : "");
        }
        Matcher classes = Pattern.compile("\\b(class|interface|enum|record) \\w+").matcher(code);
        check.due("at most twelve classes", 1, () -> Check.flag(classes.results().count() <= 12));
        check.end();
    }
}
