import java.lang.reflect.InvocationTargetException;
import java.lang.reflect.Method;
import java.util.Map;
import java.util.Random;
import java.util.TreeMap;

/**
 * Runs of chosen calls, always the same ones, on the class and on PlainCinema: every answer and every exception must
 * be the same. It looks at all promises together, and at arguments of every size.
 */
final class ModelTest {
    private static final int RUNS = 150;
    private static final int CALLS = 512;
    private static final int MOST_TOLD = 20;
    private static final int[] EDGES = {-1, 0, 1, 59, 60, 100, 400, 401, 959, 960, 1200, 1201, Integer.MIN_VALUE,
        Integer.MAX_VALUE, -2, 7, 1 << 30, 1 << 28};
    /** Each call with the kinds of its arguments; a call that stands here more often is made more often. */
    private static final String[] CALL_KINDS = {
        "addHall seats cleaning exit", "addFilm length rating genres prints release", "addTrailer film short rating genres",
        "setShares film percent step percent", "set setting value", "setLimit hour rating", "setting number",
        "hall hall what", "film film what", "share film day", "trailer trailer what", "fits trailer film day",
        "reel film day flag", "plan hall film day start", "plan hall film day start", "plan hall film day start",
        "plan hall film day start", "plan hall film day start", "move show hall start", "move show hall start",
        "cancel show", "sell show tickets", "sell show tickets", "show show what", "show show what",
        "why hall film day start flag", "why hall film day start flag", "fail hall day", "fail hall day", "reopen hall", "reopen hall",
        "line index what", "used hall day what", "at day minute what", "refusal flag", "advance few", "account what",
        "bestFilm", "use", "write hall day", "written index", "append sign", "perform", "errorPosition", "undo",
        "undo", "save", "restore", "TEXT", "TEXT", "FIRST", "FIRST", "FIRST", "FIRST", "FIRST",
    };

    private final Map<String, Integer> outcomes = new TreeMap<>();
    private final Random random;
    private final CinemaProgramme real = new CinemaProgramme();
    private final PlainCinema plain = new PlainCinema();
    private final StringBuilder told = new StringBuilder();
    private final int days;
    private final int grid;
    private final int shortest;
    private final boolean isSlow;
    private int wrong = 0;

    private ModelTest(int seed) {
        random = new Random(seed);
        days = 1 + random.nextInt(3);
        grid = new int[] {1, 5, 30}[random.nextInt(3)];
        shortest = random.nextInt(3) == 0 ? 30 : 30 + random.nextInt(90);
        isSlow = random.nextInt(3) != 0;
    }

    public static void main(String[] args) {
        int runs = args.length > 0 ? Integer.parseInt(args[0]) : RUNS;
        Map<String, Integer> outcomes = new TreeMap<>();
        int wrong = 0;
        for (int seed = 0; seed < runs && wrong < MOST_TOLD; seed++) {
            ModelTest run = new ModelTest(seed);
            run.go();
            wrong += run.wrong;
            run.outcomes.forEach((outcome, count) -> outcomes.merge(outcome, count, Integer::sum));
        }
        if (args.length > 1) {
            outcomes.forEach((outcome, count) -> System.out.println(outcome + ": " + count));
        }
        System.out.println("ModelTest: " + runs + " runs of " + CALLS + " calls, " + wrong + " wrong");
        if (wrong != 0) {
            System.exit(1);
        }
    }

    private void go() {
        int halls = 1 + random.nextInt(6);
        int films = 1 + random.nextInt(5);
        int trailers = random.nextInt(11) * random.nextInt(2);
        for (int k = 0; k < halls; k++) {
            both("addHall", 1 + random.nextInt(60), random.nextInt(41), random.nextInt(3));
        }
        for (int k = 0; k < films; k++) {
            both("addFilm", shortest + random.nextInt(40), random.nextInt(4), 1 + random.nextInt(63),
                    1 + random.nextInt(3), random.nextInt(4) == 0 ? random.nextInt(60) : 0);
        }
        for (int k = 0; k < trailers; k++) {
            both("addTrailer", random.nextInt(films), 1 + random.nextInt(6), random.nextInt(3),
                    1 + random.nextInt(63));
        }
        both("set", 0, random.nextInt(31));
        both("set", 1, 1 + random.nextInt(3));
        both("set", 2, random.nextInt(61));
        both("set", 3, random.nextInt(21));
        both("set", 4, random.nextInt(121));
        for (int k = 0; k < CALLS && wrong == 0; k++) {
            step();
            both("refusal", false);
            both("refusal", true);
            if (k % 64 == 63) {
                compareAll();
            }
        }
    }

    private void step() {
        String[] words = CALL_KINDS[random.nextInt(CALL_KINDS.length)].split(" ");
        if (words[0].equals("TEXT")) {
            if (random.nextInt(8) != 0) {
                both("perform");
            }
            type(text());
            both("perform");
        } else if (words[0].equals("FIRST")) {
            planFirst();
        } else if (words[0].equals("restore") && random.nextInt(4) != 0) {
            both("save");
        } else if (words[0].equals("advance") && isSlow && random.nextInt(20) != 0) {
            both("reopen", argument("hall"));
        } else {
            Object[] arguments = new Object[words.length - 1];
            for (int k = 0; k < arguments.length; k++) {
                arguments[k] = argument(words[k + 1]);
            }
            both(words[0], arguments);
        }
    }

    private void planFirst() {
        Object hall = argument("hall");
        Object film = argument("film");
        Object day = argument("day");
        Object start = both("firstStart", hall, film, day, argument("start"));
        if (start != null) {
            both("plan", hall, film, day, start);
        }
    }

    private Object argument(String kind) {
        if (kind.equals("flag")) {
            return random.nextBoolean();
        }
        if (kind.equals("sign")) {
            return (char) (random.nextInt(8) == 0 ? random.nextInt(65536) : 28 + random.nextInt(102));
        }
        if (random.nextInt(60) == 0) {
            return EDGES[random.nextInt(EDGES.length)];
        }
        switch (kind) {
            case "seats":
                return random.nextInt(402);
            case "cleaning":
                return random.nextInt(42);
            case "exit":
            case "few":
                return random.nextInt(4);
            case "length":
                return 29 + random.nextInt(213);
            case "rating":
                return random.nextInt(5) - (random.nextInt(4) == 0 ? 1 : 0);
            case "genres":
                return random.nextInt(65);
            case "prints":
                return random.nextInt(5);
            case "release":
                return random.nextInt(61);
            case "short":
                return random.nextInt(8);
            case "percent":
                return random.nextInt(102);
            case "step":
                return random.nextInt(52);
            case "setting":
                return random.nextInt(7);
            case "value":
                return random.nextInt(random.nextBoolean() ? 4 : 122);
            case "hour":
                return random.nextInt(17);
            case "number":
                return random.nextInt(27);
            case "hall":
                return oneOf(plain.account(0));
            case "film":
                return oneOf(plain.account(1));
            case "trailer":
                return oneOf(plain.account(2));
            case "show":
                return oneOf(plain.account(3));
            case "what":
                return random.nextInt(13);
            case "day":
                return random.nextInt(20) == 0 ? random.nextInt(61)
                        : Math.min(plain.account(11) + random.nextInt(days), 59);
            case "start":
                return random.nextInt(960 / grid) * grid;
            case "tickets":
                return 1 + random.nextInt(random.nextInt(6) == 0 ? 400 : 30);
            case "index":
                return random.nextInt(random.nextInt(3) == 0 ? 100 : 8);
            case "minute":
                return random.nextInt(1202);
            default:
                throw new IllegalStateException(kind);
        }
    }

    /** Mostly one of a number of things, sometimes the one that there is not. */
    private int oneOf(int count) {
        return count == 0 || random.nextInt(20) == 0 ? count : random.nextInt(count);
    }

    private String text() {
        StringBuilder text = new StringBuilder();
        int commands = 1 + random.nextInt(2) * random.nextInt(4);
        for (int k = 0; k < commands; k++) {
            text.append(k == 0 ? "" : ";").append(command());
        }
        if (random.nextInt(4) == 0) {
            spoil(text);
        }
        return text.toString();
    }

    private void spoil(StringBuilder text) {
        String signs = "plansedrofiy 0123456789;x";
        char sign = signs.charAt(random.nextInt(signs.length()));
        int place = random.nextInt(text.length());
        switch (random.nextInt(4)) {
            case 0:
                text.setCharAt(place, sign);
                break;
            case 1:
                text.insert(place, sign);
                break;
            case 2:
                text.deleteCharAt(place);
                break;
            default:
                text.setLength(place);
                break;
        }
    }

    private String command() {
        switch (random.nextInt(8)) {
            case 0:
            case 1:
            case 2:
                return "plan " + argument("hall") + " " + argument("film") + " " + argument("day") + " "
                        + argument("start");
            case 3:
            case 4:
                return "sell " + argument("show") + " " + (1 + random.nextInt(12));
            case 5:
                return "drop " + argument("show");
            case 6:
                return "fail " + argument("hall") + " " + argument("day");
            default:
                return "days " + (isSlow ? 0 : random.nextInt(3));
        }
    }

    private void type(String text) {
        for (int k = 0; k < text.length(); k++) {
            both("append", text.charAt(k));
        }
    }

    private void compareAll() {
        for (int what = -1; what <= 12; what++) {
            both("account", what);
            for (int hall = 0; hall < plain.account(0); hall++) {
                both("hall", hall, what);
                both("used", hall, plain.account(11), what);
                both("used", hall, Math.min(59, plain.account(11) + 1), what);
            }
            for (int film = 0; film < plain.account(1); film++) {
                both("film", film, what);
            }
            for (int trailer = 0; trailer < plain.account(2); trailer++) {
                both("trailer", trailer, what);
            }
            for (int show = 0; show < plain.account(3); show++) {
                both("show", show, what);
            }
            for (int line = 0; line < 31; line++) {
                both("line", line, what);
            }
            for (int minute = 0; minute < 1200; minute += 1 + random.nextInt(100)) {
                both("at", plain.account(11), minute, what);
            }
        }
        for (int number = -1; number < 27; number++) {
            both("setting", number);
        }
        for (int hall = 0; hall < plain.account(0); hall++) {
            Object length = both("write", hall, plain.account(11));
            for (int index = -1; length != null && index <= (Integer) length; index++) {
                both("written", index);
            }
        }
        for (int film = 0; film < plain.account(1); film++) {
            both("reel", film, plain.account(11), true);
            both("reel", film, plain.account(11), false);
        }
        both("use");
        both("bestFilm");
        both("errorPosition");
    }

    /** Makes a call on both; returns the answer, or null after an exception. */
    private Object both(String name, Object... arguments) {
        Object due = outcome(plain, name, arguments);
        Object answer = outcome(real, name, arguments);
        outcomes.merge(name + (due instanceof Class ? " " + due : ""), 1, Integer::sum);
        if (name.equals("refusal") && arguments[0].equals(false) && due instanceof Integer) {
            outcomes.merge("reason " + due, 1, Integer::sum);
        }
        told.append(name).append(java.util.Arrays.toString(arguments)).append(" -> ").append(due).append('\n');
        if (!due.equals(answer) && wrong++ == 0) {
            System.out.println(told + "answered " + answer);
        }
        return due instanceof Class ? null : due;
    }

    private static Object outcome(Object object, String name, Object[] arguments) {
        Class<?>[] types = new Class<?>[arguments.length];
        for (int k = 0; k < types.length; k++) {
            types[k] = arguments[k] instanceof Integer ? int.class
                    : arguments[k] instanceof Boolean ? boolean.class : char.class;
        }
        try {
            Method method = object.getClass().getDeclaredMethod(name, types);
            method.setAccessible(true);
            return method.invoke(object, arguments);
        } catch (InvocationTargetException e) {
            return e.getCause().getClass();
        } catch (ReflectiveOperationException e) {
            throw new IllegalStateException(e);
        }
    }
}
