import java.io.IOException;
import java.nio.file.Files;
import java.nio.file.Path;
import java.util.List;
import java.util.Map;
import java.util.TreeMap;
import java.util.regex.MatchResult;
import java.util.regex.Pattern;

/**
 * Whether README.md tells the truth: the answers of its example, its positions of errors, its tables of settings
 * and calls; run in the project's folder, as .ci/run does.
 */
final class ReadmeTest {
    private static final Path README = Path.of("README.md");
    private static final Path SOURCE = Path.of("src/main/java/CinemaProgramme.java");
    private static final Pattern EXAMPLE_LINE = Pattern.compile("(cinema\\..*;) +// (throws \\w+|'.'|-?\\d+)(:.*)?");
    private static final Pattern SETTING_ROW = Pattern.compile("\\| (\\d) \\| .+ \\| (\\d+) to (\\d+) \\| (\\d+) \\|");
    private static final Pattern TABLE_ROW = Pattern.compile("\\| `(\\w+\\(.*\\))` \\| .+ \\| ([\\w, ]+) \\|");
    private static final Pattern FACE_LINE =
            Pattern.compile("public (?:int|boolean|char|double) (\\w+)\\(([^)]*)\\)(?: throws ([\\w, ]+))? \\{");

    private record Step(String code, Check.CinemaCall call) {
    }

    private static final List<Step> STEPS = List.of(
            new Step("cinema.addHall(100, 20, 0);", x -> x.addHall(100, 20, 0)),
            new Step("cinema.addHall(50, 15, 1);", x -> x.addHall(50, 15, 1)),
            new Step("cinema.addFilm(90, 1, 3, 2, 0);", x -> x.addFilm(90, 1, 3, 2, 0)),
            new Step("cinema.addFilm(120, 2, 2, 1, 7);", x -> x.addFilm(120, 2, 2, 1, 7)),
            new Step("cinema.addTrailer(1, 4, 1, 2);", x -> x.addTrailer(1, 4, 1, 2)),
            new Step("cinema.plan(0, 0, 0, 120);", x -> x.plan(0, 0, 0, 120)),
            new Step("cinema.show(0, 4);", x -> x.show(0, 4)),
            new Step("cinema.plan(0, 0, 0, 200);", x -> x.plan(0, 0, 0, 200)),
            new Step("cinema.refusal(false);", x -> x.refusal(false)),
            new Step("cinema.refusal(true);", x -> x.refusal(true)),
            new Step("cinema.firstStart(0, 0, 0, 200);", x -> x.firstStart(0, 0, 0, 200)),
            new Step("cinema.sell(0, 40);", x -> x.sell(0, 40)),
            new Step("cinema.account(6);", x -> x.account(6)),
            new Step("cinema.account(7);", x -> x.account(7)),
            new Step("cinema.write(0, 0);", x -> x.write(0, 0)),
            new Step("cinema.written(0);", x -> x.written(0)),
            new Step("cinema.fail(0, 0);", x -> x.fail(0, 0)),
            new Step("cinema.line(0, 2);", x -> x.line(0, 2)),
            new Step("cinema.undo();", x -> x.undo()));

    private ReadmeTest() {
    }

    public static void main(String[] args) throws IOException {
        Check check = new Check("ReadmeTest");
        String readme = Files.readString(README);
        example(check, readme);
        texts(check, readme);
        settings(check, readme);
        calls(check, readme, Files.readString(SOURCE));
        check.end();
    }

    private static void example(Check check, String readme) {
        List<MatchResult> lines = matches(EXAMPLE_LINE, readme);
        check.due("lines of the example", STEPS.size(), () -> lines.size());
        CinemaProgramme cinema = new CinemaProgramme();
        for (int k = 0; k < Math.min(lines.size(), STEPS.size()); k++) {
            Step step = STEPS.get(k);
            String due = lines.get(k).group(2);
            check.same("line " + k + " of the example", step.code(), lines.get(k).group(1));
            if (due.startsWith("throws")) {
                check.same(step.code(), "throws UnsupportedOperationException", due);
                check.fails(step.code(), Check.REFUSED, () -> step.call().answer(cinema));
            } else {
                long number = due.startsWith("'") ? due.charAt(1) : Long.parseLong(due);
                check.due(step.code(), number, () -> step.call().answer(cinema));
            }
        }
        String text = Check.written(cinema);
        check.due("the example tells " + text, 1, () -> Check.flag(readme.contains("the length of \"" + text + "\"")));
    }

    private static void texts(Check check, String readme) {
        List<MatchResult> positions = matches(Pattern.compile("(\\d+) for `([^`]*)`"), readme);
        check.due("positions of errors that are told", 3, () -> positions.size());
        for (MatchResult told : positions) {
            CinemaProgramme cinema = new CinemaProgramme();
            Check.type(cinema, told.group(2));
            check.fails("perform of " + told.group(2), Check.ARGUMENT, () -> cinema.perform());
            check.due("its error position", Long.parseLong(told.group(1)), () -> cinema.errorPosition());
        }
        CinemaProgramme cinema = new CinemaProgramme();
        check.fails("perform of an empty input", Check.ARGUMENT, () -> cinema.perform());
        check.due("its error position", 0, () -> cinema.errorPosition());
        Check.type(cinema, "plan 0 0 0 120;sell 0 40");
        check.due("the text stands there", 1, () -> Check.flag(readme.contains("`plan 0 0 0 120;sell 0 40`")));
        cinema.addHall(100, 20, 0);
        cinema.addFilm(90, 1, 3, 2, 0);
        check.due("perform of the text", 2, () -> cinema.perform());
    }

    private static void settings(Check check, String readme) {
        List<MatchResult> rows = matches(SETTING_ROW, readme);
        check.due("settings that are told", 6, () -> rows.size());
        CinemaProgramme cinema = new CinemaProgramme();
        for (MatchResult row : rows) {
            int setting = Integer.parseInt(row.group(1));
            int lowest = Integer.parseInt(row.group(2));
            int highest = Integer.parseInt(row.group(3));
            check.due("setting " + setting, Long.parseLong(row.group(4)), () -> cinema.setting(setting));
            check.range("setting " + setting, lowest, highest, Check.ARGUMENT, value -> cinema.set(setting, value));
        }
    }

    /** Each call of the face stands in the table, with the names of its arguments and its exceptions in their order. */
    private static void calls(Check check, String readme, String source) {
        Map<String, String> told = new TreeMap<>();
        for (MatchResult row : matches(TABLE_ROW, readme)) {
            told.put(row.group(1), row.group(2));
        }
        List<MatchResult> face = matches(FACE_LINE, source.replaceAll("\\s+", " "));
        check.due("calls of the table", face.size(), () -> told.size());
        check.due("calls of the face", 38, () -> face.size());
        for (MatchResult line : face) {
            String call = line.group(1) + "(" + line.group(2).replaceAll("(int|boolean|char) ", "") + ")";
            String thrown = line.group(3) == null ? "nothing" : line.group(3).replace("Exception", "");
            check.same("what the table tells of " + call, thrown, told.getOrDefault(call, "no row"));
        }
    }

    private static List<MatchResult> matches(Pattern pattern, String text) {
        return pattern.matcher(text).results().toList();
    }
}
