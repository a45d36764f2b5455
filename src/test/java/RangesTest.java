/**
 * Each number that a call takes: the last value that is allowed on both sides, which is kept where the call keeps it,
 * and the first that is not.
 */
final class RangesTest {
    private static final int[] LOWEST_SETTINGS = {0, 1, 0, 0, 0, 1};
    private static final int[] HIGHEST_SETTINGS = {30, 3, 60, 20, 120, 99};

    private final Check check = new Check("RangesTest");

    private RangesTest() {
    }

    public static void main(String[] args) {
        RangesTest test = new RangesTest();
        test.addHall();
        test.addFilm();
        test.setShares();
        test.addTrailer();
        test.settings();
        test.limits();
        test.halls();
        test.films();
        test.shares();
        test.trailers();
        test.fits();
        test.reel();
        test.plan();
        test.move();
        test.cancelAndSell();
        test.show();
        test.why();
        test.firstStart();
        test.failAndReopen();
        test.line();
        test.used();
        test.at();
        test.advance();
        test.account();
        test.writeAndWritten();
        test.append();
        test.check.end();
    }

    /** Two halls, two films, two trailers; two shows of film 0: 0 in hall 0 on day 0, 1 in hall 1 on day 59. */
    private static CinemaProgramme cinema() {
        CinemaProgramme x = new CinemaProgramme();
        x.addHall(400, 10, 0);
        x.addHall(100, 0, 1);
        x.addFilm(30, 0, 1, 3, 0);
        x.addFilm(100, 3, 63, 1, 59);
        x.addTrailer(1, 3, 0, 1);
        x.addTrailer(1, 6, 3, 63);
        x.plan(0, 0, 0, 100);
        x.plan(1, 0, 59, 0);
        return x;
    }

    private static long hall(int seats, int cleaning, int exit, int what) {
        CinemaProgramme x = cinema();
        return x.hall(x.addHall(seats, cleaning, exit), what);
    }

    private void addHall() {
        check.rangeKept("a hall has 1 to 400 seats", 1, 400, Check.ARGUMENT, n -> hall(n, 0, 0, 0));
        check.rangeKept("a cleaning time of 0 to 40", 0, 40, Check.ARGUMENT, n -> hall(1, n, 0, 1));
        check.rangeKept("an exit, 0 to 2", 0, 2, Check.ARGUMENT, n -> hall(1, 0, n, 2));
    }

    private static long film(int length, int rating, int genres, int prints, int release, int what) {
        CinemaProgramme x = cinema();
        return x.film(x.addFilm(length, rating, genres, prints, release), what);
    }

    private void addFilm() {
        check.rangeKept("a length of 30 to 240", 30, 240, Check.ARGUMENT, n -> film(n, 0, 1, 1, 0, 0));
        check.rangeKept("a rating from 0 to 3", 0, 3, Check.ARGUMENT, n -> film(30, n, 1, 1, 0, 1));
        check.rangeKept("genres 0 to 5, at least one", 1, 63, Check.ARGUMENT, n -> film(30, 0, n, 1, 0, 2));
        check.rangeKept("1 to 3 prints", 1, 3, Check.ARGUMENT, n -> film(30, 0, 1, n, 0, 3));
        check.rangeKept("a release day, 0 to 59", 0, 59, Check.ARGUMENT, n -> film(30, 0, 1, 1, n, 4));
        for (int genre = 0; genre <= 5; genre++) {
            int only = 1 << genre;
            check.due("genre " + genre + " alone", only, () -> film(30, 0, only, 1, 0, 2));
        }
    }

    private static long shares(int first, int step, int least, int what) {
        CinemaProgramme x = cinema();
        x.setShares(0, first, step, least);
        return x.film(0, what);
    }

    private void setShares() {
        check.range("setShares of film", 0, 1, Check.INDEX, n -> cinema().setShares(n, 50, 5, 5));
        check.rangeKept("the first share, 0 to 100", 0, 100, Check.ARGUMENT, n -> shares(n, 0, 0, 9));
        check.rangeKept("the step, 0 to 50", 0, 50, Check.ARGUMENT, n -> shares(50, n, 0, 10));
        check.rangeKept("the least share, 0 to a first of 40", 0, 40, Check.ARGUMENT, n -> shares(40, 5, n, 11));
        check.rangeKept("the least share, 0 to a first of 0", 0, 0, Check.ARGUMENT, n -> shares(0, 5, n, 11));
        check.rangeKept("the least share, 0 to a first of 100", 0, 100, Check.ARGUMENT, n -> shares(100, 5, n, 11));
    }

    private static long trailer(int film, int length, int rating, int genres, int what) {
        CinemaProgramme x = cinema();
        return x.trailer(x.addTrailer(film, length, rating, genres), what);
    }

    private void addTrailer() {
        check.rangeKept("the film of a trailer", 0, 1, Check.INDEX, n -> trailer(n, 1, 0, 1, 0));
        check.rangeKept("a length of 1 to 6", 1, 6, Check.ARGUMENT, n -> trailer(0, n, 0, 1, 1));
        check.rangeKept("the rating of a trailer, 0 to 3", 0, 3, Check.ARGUMENT, n -> trailer(0, 1, n, 1, 2));
        check.rangeKept("the genres of a trailer", 1, 63, Check.ARGUMENT, n -> trailer(0, 1, 0, n, 3));
    }

    private static long setting(int number, int value) {
        CinemaProgramme x = cinema();
        x.set(number, value);
        return x.setting(number);
    }

    private void settings() {
        check.range("set of setting", 0, 5, Check.INDEX, n -> cinema().set(n, 1));
        for (int k = 0; k <= 5; k++) {
            int number = k;
            check.rangeKept("setting " + k, LOWEST_SETTINGS[k], HIGHEST_SETTINGS[k], Check.ARGUMENT,
                    n -> setting(number, n));
        }
        check.range("setting of settings", 0, 5, Check.INDEX, n -> cinema().setting(n));
        check.range("setting of limits", 10, 25, Check.INDEX, n -> cinema().setting(n));
        for (int number = 6; number <= 9; number++) {
            int between = number;
            check.fails("setting(" + number + ")", Check.INDEX, () -> cinema().setting(between));
        }
    }

    private static long limit(int hour, int rating) {
        CinemaProgramme x = cinema();
        x.setLimit(hour, rating);
        return x.setting(10 + hour);
    }

    private void limits() {
        check.range("setLimit of hour", 0, 15, Check.INDEX, n -> cinema().setLimit(n, 0));
        check.rangeKept("the limit of hour 0", 0, 3, Check.ARGUMENT, n -> limit(0, n));
        check.rangeKept("the limit of hour 15", 0, 3, Check.ARGUMENT, n -> limit(15, n));
    }

    private void halls() {
        check.range("hall of hall", 0, 1, Check.INDEX, n -> cinema().hall(n, 0));
        check.range("hall of what", 0, 6, Check.ARGUMENT, n -> cinema().hall(1, n));
    }

    private void films() {
        check.range("film of film", 0, 1, Check.INDEX, n -> cinema().film(n, 0));
        check.range("film of what", 0, 11, Check.ARGUMENT, n -> cinema().film(1, n));
    }

    private void shares() {
        check.range("share of film", 0, 1, Check.INDEX, n -> cinema().share(n, 59));
        check.range("share of day", 0, 59, Check.ARGUMENT, n -> cinema().share(0, n));
        check.fails("share on day 0, before the release", Check.NO_ELEMENT, () -> cinema().share(1, 0));
        check.fails("share on the day before the release", Check.NO_ELEMENT, () -> cinema().share(1, 58));
        check.due("share on the release day", 60, () -> cinema().share(1, 59));
    }

    private void trailers() {
        check.range("trailer of trailer", 0, 1, Check.INDEX, n -> cinema().trailer(n, 0));
        check.range("trailer of what", 0, 3, Check.ARGUMENT, n -> cinema().trailer(1, n));
    }

    private void fits() {
        check.range("fits of trailer", 0, 1, Check.INDEX, n -> Check.flag(cinema().fits(n, 0, 0)));
        check.range("fits of film", 0, 1, Check.INDEX, n -> Check.flag(cinema().fits(0, n, 0)));
        check.range("fits of day", 0, 59, Check.ARGUMENT, n -> Check.flag(cinema().fits(0, 0, n)));
    }

    private void reel() {
        for (boolean isMinutes : new boolean[] {true, false}) {
            check.range("reel of film", 0, 1, Check.INDEX, n -> cinema().reel(n, 0, isMinutes));
            check.range("reel of day", 0, 59, Check.ARGUMENT, n -> cinema().reel(0, n, isMinutes));
        }
    }

    private static long planned(int hall, int film, int day, int start, int what) {
        CinemaProgramme x = cinema();
        return x.show(x.plan(hall, film, day, start), what);
    }

    private void plan() {
        check.rangeKept("the hall of plan", 0, 1, Check.INDEX, n -> planned(n, 0, 0, 200, 0));
        check.rangeKept("the film of plan", 0, 1, Check.INDEX, n -> planned(0, n, 59, 200, 1));
        check.rangeKept("the day of plan", 0, 59, Check.ARGUMENT, n -> planned(0, 0, n, 200, 2));
        int[] wrong = {Integer.MIN_VALUE, -1, 960, Integer.MAX_VALUE};
        for (int start : wrong) {
            check.fails("the start of plan " + start, Check.ARGUMENT, () -> planned(0, 0, 1, start, 3));
        }
        check.due("the start of plan 0", 0, () -> planned(0, 0, 1, 0, 3));
        check.fails("the start of plan 959, a minute of the day", Check.REFUSED, () -> planned(0, 0, 1, 959, 3));
    }

    private static long moved(int show, int hall, int start, int what) {
        CinemaProgramme x = cinema();
        x.move(show, hall, start);
        return x.show(show, what);
    }

    private void move() {
        check.range("the show of move", 0, 1, Check.INDEX, n -> moved(n, 0, 200, 0));
        check.rangeKept("the hall of move", 0, 1, Check.INDEX, n -> moved(0, n, 200, 0));
        int[] wrong = {Integer.MIN_VALUE, -1, 960, Integer.MAX_VALUE};
        for (int start : wrong) {
            check.fails("the start of move " + start, Check.ARGUMENT, () -> moved(0, 0, start, 3));
        }
        check.due("the start of move 0", 0, () -> moved(0, 0, 0, 3));
        check.fails("the start of move 959, a minute of the day", Check.REFUSED, () -> moved(0, 0, 959, 3));
    }

    private void cancelAndSell() {
        check.range("the show of cancel", 0, 1, Check.INDEX, n -> cinema().cancel(n));
        check.range("the show of sell", 0, 1, Check.INDEX, n -> cinema().sell(n, 1));
        check.rangeKept("1 to 400 tickets", 1, 400, Check.ARGUMENT, n -> cinema().sell(0, n));
    }

    private void show() {
        check.range("show of show", 0, 1, Check.INDEX, n -> cinema().show(n, 0));
        check.range("show of what", 0, 11, Check.ARGUMENT, n -> cinema().show(1, n));
    }

    private void why() {
        for (boolean isDetail : new boolean[] {true, false}) {
            check.range("the hall of why", 0, 1, Check.INDEX, n -> cinema().why(n, 0, 0, 0, isDetail));
            check.range("the film of why", 0, 1, Check.INDEX, n -> cinema().why(0, n, 0, 0, isDetail));
            check.range("the day of why", 0, 59, Check.ARGUMENT, n -> cinema().why(0, 0, n, 0, isDetail));
            check.range("the start of why", 0, 959, Check.ARGUMENT, n -> cinema().why(0, 0, 0, n, isDetail));
        }
    }

    private void firstStart() {
        check.range("the hall of firstStart", 0, 1, Check.INDEX, n -> cinema().firstStart(n, 0, 0, 0));
        check.range("the film of firstStart", 0, 1, Check.INDEX, n -> cinema().firstStart(0, n, 59, 0));
        check.range("the day of firstStart", 0, 59, Check.ARGUMENT, n -> cinema().firstStart(0, 0, n, 0));
        int[] wrong = {Integer.MIN_VALUE, -1, 960, Integer.MAX_VALUE};
        for (int from : wrong) {
            check.fails("firstStart from " + from, Check.ARGUMENT, () -> cinema().firstStart(0, 0, 1, from));
        }
        check.due("firstStart from 0", 0, () -> cinema().firstStart(0, 0, 1, 0));
        check.due("firstStart from the last start with a place", 927, () -> cinema().firstStart(0, 0, 1, 927));
        check.fails("firstStart from the one behind it", Check.NO_ELEMENT, () -> cinema().firstStart(0, 0, 1, 928));
        check.fails("firstStart from 959", Check.NO_ELEMENT, () -> cinema().firstStart(0, 0, 1, 959));
    }

    private static CinemaProgramme closed(int hall, int day) {
        CinemaProgramme x = cinema();
        x.fail(hall, day);
        return x;
    }

    private static long failedOn(int today, int day) {
        CinemaProgramme x = cinema();
        if (today > 0) {
            x.advance(today);
        }
        x.fail(0, day);
        return x.hall(0, 3);
    }

    private void failAndReopen() {
        check.range("the hall of fail", 0, 1, Check.INDEX, n -> cinema().fail(n, 0));
        check.rangeKept("the day of fail on day 0", 0, 59, Check.ARGUMENT, n -> failedOn(0, n));
        check.rangeKept("the day of fail on day 7", 7, 59, Check.ARGUMENT, n -> failedOn(7, n));
        check.rangeKept("the day of fail on day 30", 30, 59, Check.ARGUMENT, n -> failedOn(30, n));
        check.range("the hall of reopen", 0, 1, Check.INDEX, n -> closed(Math.max(0, Math.min(n, 1)), 3).reopen(n));
        check.due("reopen of a hall that is closed from day 0 on", 0, () -> closed(0, 0).reopen(0));
        check.due("reopen of a hall that is closed from day 59 on", 59, () -> closed(0, 59).reopen(0));
    }

    private void line() {
        check.range("the index of line", 0, 0, Check.NO_ELEMENT, n -> closed(1, 59).line(n, 0));
        check.range("line of what", 0, 4, Check.ARGUMENT, n -> closed(1, 59).line(0, n));
        CinemaProgramme x = cinema();
        x.plan(0, 0, 0, 300);
        x.plan(0, 0, 9, 300);
        x.fail(0, 0);
        check.range("the index of line with three lines", 0, 2, Check.NO_ELEMENT, n -> x.line(n, 4));
    }

    private void used() {
        check.range("the hall of used", 0, 1, Check.INDEX, n -> cinema().used(n, 0, 0));
        check.range("the day of used", 0, 59, Check.ARGUMENT, n -> cinema().used(0, n, 0));
        check.range("used of what", 0, 4, Check.ARGUMENT, n -> cinema().used(0, 0, n));
    }

    private void at() {
        check.range("the day of at", 0, 59, Check.ARGUMENT, n -> cinema().at(n, 0, 0));
        check.range("the minute of at", 0, 1200, Check.ARGUMENT, n -> cinema().at(0, n, 0));
        check.range("at of what", 0, 3, Check.ARGUMENT, n -> cinema().at(0, 0, n));
    }

    private static long advanced(int first, int second, int days) {
        CinemaProgramme x = cinema();
        x.advance(first);
        x.advance(second);
        return x.advance(days) - first - second;
    }

    private void advance() {
        check.rangeKept("1 to 30 days pass", 1, 30, Check.ARGUMENT, n -> cinema().advance(n));
        check.rangeKept("today is 30: 29 days are left", 1, 29, Check.ARGUMENT, n -> advanced(29, 1, n));
        check.rangeKept("today is 29: 30 days are left", 1, 30, Check.ARGUMENT, n -> advanced(28, 1, n));
        check.rangeKept("today is 58: one day is left", 1, 1, Check.ARGUMENT, n -> advanced(30, 28, n));
        int[] all = {Integer.MIN_VALUE, -1, 0, 1, 30, Integer.MAX_VALUE};
        for (int days : all) {
            check.fails("today is 59: advance(" + days + ")", Check.ARGUMENT, () -> advanced(30, 29, days));
        }
    }

    private void account() {
        check.range("account of what", 0, 11, Check.ARGUMENT, n -> cinema().account(n));
    }

    private static char written(int index) {
        CinemaProgramme x = cinema();
        x.write(0, 0);
        return x.written(index);
    }

    private void writeAndWritten() {
        check.range("the hall of write", 0, 1, Check.INDEX, n -> cinema().write(n, 0));
        check.range("the day of write", 0, 59, Check.ARGUMENT, n -> cinema().write(0, n));
        int last = "100-130 f0 0/400".length() - 1;
        check.range("the index of written", 0, last, Check.INDEX, n -> written(n));
        check.due("the first character", '1', () -> written(0));
        check.due("the last character", '0', () -> written(last));
    }

    private void append() {
        int[] wrong = {0, 10, 31, 127, 128, 255, 256, 256 + 'A', 0x8020, 65535};
        for (int code : wrong) {
            check.fails("append of code " + code, Check.ARGUMENT, () -> cinema().append((char) code));
        }
        for (int code = 32; code <= 126; code++) {
            char character = (char) code;
            check.due("append of code " + code, 1, () -> cinema().append(character));
        }
    }
}
