/** The terms, sentence by sentence: days, halls, films, trailers, shows, rules and tickets, at their edges. */
final class TermsTest {
    private final Check check = new Check("TermsTest");

    private TermsTest() {
    }

    public static void main(String[] args) {
        TermsTest test = new TermsTest();
        test.hours();
        test.closedFromADayOn();
        test.sharesByWeeks();
        test.leastShare();
        test.trailersThatFit();
        test.bestReel();
        test.showsOfThen();
        test.showsThatAreOver();
        test.sameDayAndNotCancelled();
        test.ruleSevenByPrints();
        test.ruleSevenOnlyUnderWay();
        test.carryingBeginsAtTheEnd();
        test.ruleEightBothSides();
        test.ruleNineByCrews();
        test.ruleNineOnlyWhileCleaned();
        test.firstMinuteOfSeveral();
        test.minutesBehindTheDay();
        test.lowestNumbers();
        test.receiptsAndParts();
        test.minuteByMinute();
        test.usedAtTheEndOfTheDay();
        test.check.end();
    }

    private static final int[] NO_RULE = {0, -1};

    /** Halls of 100 seats without cleaning, with the exits 0, 1, 2, 0 ..; film 0 of 100 minutes with three prints. */
    private static CinemaProgramme cinema(int halls) {
        CinemaProgramme x = new CinemaProgramme();
        for (int hall = 0; hall < halls; hall++) {
            x.addHall(100, 0, hall % 3);
        }
        x.addFilm(100, 1, 1, 3, 0);
        return x;
    }

    private void rule(String what, CinemaProgramme x, int[] due, int hall, int film, int day, int start) {
        check.due(what, due[0], () -> x.why(hall, film, day, start, false));
        check.due("the detail of " + what, due[1], () -> x.why(hall, film, day, start, true));
    }

    /** Minute m belongs to the hour m / 60, rounded down, so there are the hours 0 to 15. */
    private void hours() {
        for (int hour = 0; hour < 16; hour++) {
            CinemaProgramme x = new CinemaProgramme();
            x.addHall(100, 0, 0);
            x.addFilm(30, 1, 1, 3, 0);
            x.setLimit(hour, 0);
            int[] limit = {4, 0};
            int[] late = {5, 989};
            rule("the first minute of hour " + hour, x, limit, 0, 0, 0, 60 * hour);
            rule("the last minute of hour " + hour, x, limit, 0, 0, 0, 60 * hour + 59);
            if (hour > 0) {
                rule("the minute ahead of hour " + hour, x, NO_RULE, 0, 0, 0, 60 * hour - 1);
            }
            if (hour < 15) {
                int next = 60 * hour + 60;
                rule("the minute behind hour " + hour, x, NO_RULE, 0, 0, 0, next);
            }
            x.setLimit(hour, 1);
            rule("a limit that is just the rating", x, hour == 15 ? late : NO_RULE, 0, 0, 0, 60 * hour + 59);
        }
    }

    private void closedFromADayOn() {
        for (int day : new int[] {0, 1, 30, 59}) {
            CinemaProgramme x = cinema(1);
            x.fail(0, day);
            check.due("the day from which it is closed", day, () -> x.hall(0, 3));
            int[] closed = {2, 0};
            rule("the day from which it is closed", x, closed, 0, 0, day, 0);
            rule("the last day", x, closed, 0, 0, 59, 0);
            if (day > 0) {
                rule("the day before", x, NO_RULE, 0, 0, day - 1, 0);
                check.due("written on the day before", 4, () -> x.write(0, day - 1));
            }
            check.due("written on this day", 12, () -> x.write(0, day));
            check.due("written on the last day", 12, () -> x.write(0, 59));
            x.reopen(0);
            rule("after reopen", x, NO_RULE, 0, 0, day, 0);
            check.due("written after reopen", 4, () -> x.write(0, day));
        }
    }

    /** A full week has 7 days. */
    private void sharesByWeeks() {
        CinemaProgramme x = new CinemaProgramme();
        x.addFilm(30, 0, 1, 1, 3);
        x.setShares(0, 90, 11, 0);
        int[][] due = {{3, 90}, {4, 90}, {9, 90}, {10, 79}, {16, 79}, {17, 68}, {23, 68}, {24, 57}, {30, 57}, {31, 46},
            {37, 46}, {38, 35}, {44, 35}, {45, 24}, {51, 24}, {52, 13}, {58, 13}, {59, 2}};
        for (int[] row : due) {
            check.due("the share on day " + row[0], row[1], () -> x.share(0, row[0]));
        }
        check.fails("the day before the release", Check.NO_ELEMENT, () -> x.share(0, 2));
    }

    private void leastShare() {
        CinemaProgramme x = new CinemaProgramme();
        x.addFilm(30, 0, 1, 1, 0);
        int[][] shares = {{50, 10, 30, 50, 40, 30, 30}, {50, 10, 29, 50, 40, 30, 29}, {50, 10, 31, 50, 40, 31, 31},
            {50, 0, 0, 50, 50, 50, 50}, {50, 50, 0, 50, 0, 0, 0}, {50, 49, 1, 50, 1, 1, 1},
            {100, 50, 100, 100, 100, 100, 100}, {0, 50, 0, 0, 0, 0, 0}};
        for (int[] row : shares) {
            x.setShares(0, row[0], row[1], row[2]);
            for (int week = 0; week < 4; week++) {
                int day = 7 * week;
                check.due("the share after weeks: " + week, row[3 + week], () -> x.share(0, day));
            }
        }
    }

    private void trailersThatFit() {
        CinemaProgramme x = new CinemaProgramme();
        x.addFilm(30, 1, 0b000011, 1, 0);
        x.addFilm(30, 3, 0b111111, 1, 10);
        x.addFilm(30, 0, 0b100000, 1, 59);
        x.addTrailer(1, 1, 1, 0b000010);
        x.addTrailer(1, 1, 2, 0b000010);
        x.addTrailer(1, 1, 0, 0b111100);
        x.addTrailer(2, 1, 0, 0b100001);
        check.due("released after this day, by a day", 1, () -> Check.flag(x.fits(0, 0, 9)));
        check.due("released on this day", 0, () -> Check.flag(x.fits(0, 0, 10)));
        check.due("released before this day", 0, () -> Check.flag(x.fits(0, 0, 11)));
        check.due("its rating is that of the film", 1, () -> Check.flag(x.fits(0, 0, 0)));
        check.due("its rating is one higher", 0, () -> Check.flag(x.fits(1, 0, 0)));
        check.due("no genre in common", 0, () -> Check.flag(x.fits(2, 0, 0)));
        check.due("one genre in common, the lowest", 1, () -> Check.flag(x.fits(3, 0, 58)));
        check.due("one genre in common, the highest", 1, () -> Check.flag(x.fits(2, 2, 0)));
        check.due("for the same film", 0, () -> Check.flag(x.fits(3, 2, 0)));
        check.due("the last day: nothing is released after it", 0, () -> Check.flag(x.fits(3, 0, 59)));
    }

    private static CinemaProgramme withTrailers(int... lengths) {
        CinemaProgramme x = new CinemaProgramme();
        x.addFilm(90, 0, 1, 1, 0);
        x.addFilm(90, 0, 1, 1, 59);
        for (int length : lengths) {
            x.addTrailer(1, length, 0, 1);
        }
        return x;
    }

    private void best(String what, int minutes, int trailers, CinemaProgramme x) {
        check.due(what, trailers, () -> x.reel(0, 0, false));
        check.due("the minutes of " + what, minutes, () -> x.reel(0, 0, true));
    }

    private void bestReel() {
        best("no trailers", 0, 0, withTrailers());
        best("one trailer", 6, 0b1, withTrailers(6));
        best("one trailer of one minute", 1, 0b1, withTrailers(1));
        best("a block that is just full", 10, 0b11, withTrailers(6, 4));
        best("a block that would be one minute too small", 6, 0b1, withTrailers(6, 5));
        best("four trailers, not five", 4, 0b1111, withTrailers(1, 1, 1, 1, 1));
        best("four trailers, of six the longest", 8, 0b111100, withTrailers(1, 1, 2, 2, 2, 2));
        best("the most minutes, though of more trailers", 10, 0b01111, withTrailers(3, 3, 3, 1, 5));
        best("the fewest trailers of several with the most minutes", 10, 0b1001, withTrailers(4, 3, 3, 6));
        best("the first one of several with the fewest", 10, 0b01001, withTrailers(6, 5, 5, 4, 4));
        best("0 and 4 are ahead of 1 and 2", 10, 0b10001, withTrailers(5, 4, 6, 1, 5));
        best("1, 2 and 3 are ahead of 1, 2 and 4", 9, 0b01110, withTrailers(5, 3, 3, 3, 3));
        CinemaProgramme x = withTrailers(6, 6, 6, 6);
        int[][] blocks = {{0, 0}, {5, 0}, {6, 6}, {11, 6}, {12, 12}, {17, 12}, {18, 18}, {20, 18}};
        for (int[] row : blocks) {
            x.set(3, row[0]);
            check.due("the minutes in a block of " + row[0], row[1], () -> x.reel(0, 0, true));
        }
        CinemaProgramme y = withTrailers(5, 5, 5, 5);
        y.set(3, 20);
        best("four trailers fill the greatest block", 20, 0b1111, y);
        y.set(3, 19);
        best("a minute less", 15, 0b0111, y);
    }

    /** It gets the best reel and the price as they are when it is planned. */
    private void showsOfThen() {
        CinemaProgramme x = cinema(1);
        x.addFilm(30, 0, 1, 1, 10);
        x.addTrailer(1, 4, 1, 1);
        x.plan(0, 0, 9, 0);
        x.plan(0, 0, 10, 0);
        x.addTrailer(1, 5, 1, 1);
        x.set(5, 99);
        x.set(3, 9);
        x.plan(0, 0, 9, 200);
        x.set(3, 0);
        x.set(5, 1);
        x.plan(0, 0, 9, 400);
        int[][] due = {{104, 1, 10, 4}, {100, 0, 10, 0}, {309, 3, 99, 9}, {500, 0, 1, 0}};
        int[] whats = {4, 6, 7, 11};
        for (int show = 0; show < due.length; show++) {
            for (int k = 0; k < whats.length; k++) {
                int asked = show;
                int what = whats[k];
                check.due("show(" + show + ", " + what + ")", due[show][k], () -> x.show(asked, what));
            }
        }
    }

    private void showsThatAreOver() {
        CinemaProgramme x = cinema(1);
        x.plan(0, 0, 0, 0);
        x.plan(0, 0, 1, 0);
        x.plan(0, 0, 2, 0);
        x.sell(0, 1);
        x.cancel(2);
        int[][] due = {{0, 0, 1}, {2, 0, 1}, {2, 2, 1}, {2, 2, 1}};
        for (int today = 0; today < due.length; today++) {
            for (int show = 0; show < 3; show++) {
                int asked = show;
                check.due("show " + show + " on day " + today, due[today][show], () -> x.show(asked, 8));
            }
            if (today < 3) {
                x.advance(1);
            }
        }
        check.due("the tickets of a show that is over", 1, () -> x.account(5));
        check.due("the shows of the film, those over included", 2, () -> x.film(0, 5));
    }

    /** Only shows of the same day that are not cancelled count as other shows. */
    private void sameDayAndNotCancelled() {
        int[] rules = {6, 7, 8, 9};
        for (int rule : rules) {
            CinemaProgramme x = new CinemaProgramme();
            x.addHall(100, 40, 0);
            x.addHall(100, 40, rule == 8 ? 0 : 1);
            x.addFilm(100, 0, 1, rule == 7 ? 1 : 3, 0);
            x.set(1, rule == 9 ? 1 : 3);
            x.plan(0, 0, 5, 300);
            int[] due = {rule, rule < 7 || rule == 8 ? 0 : rule == 7 ? 300 : 400};
            int hall = rule == 6 ? 0 : 1;
            rule("rule " + rule + " on the same day", x, due, hall, 0, 5, 300);
            rule("rule " + rule + " on the day before", x, NO_RULE, hall, 0, 4, 300);
            rule("rule " + rule + " on the day after", x, NO_RULE, hall, 0, 6, 300);
            x.cancel(0);
            rule("rule " + rule + " with a cancelled show", x, NO_RULE, hall, 0, 5, 300);
            x.undo();
            rule("rule " + rule + " after undo", x, due, hall, 0, 5, 300);
        }
    }

    /** At each minute, at most as many shows of the film as it has prints are under way, this one included. */
    private void ruleSevenByPrints() {
        for (int prints = 1; prints <= 3; prints++) {
            CinemaProgramme x = new CinemaProgramme();
            for (int hall = 0; hall < 5; hall++) {
                x.addHall(100, 0, 0);
            }
            x.addFilm(100, 0, 1, prints, 0);
            x.addFilm(100, 0, 1, 1, 0);
            x.set(0, 0);
            for (int hall = 0; hall < prints - 1; hall++) {
                x.plan(hall, 0, 0, 300 + hall);
            }
            rule("as many as there are prints: " + prints, x, NO_RULE, 4, 0, 0, 250);
            x.plan(3, 0, 0, 310);
            int[] crowded = {7, 310};
            rule("more than there are prints: " + prints, x, crowded, 4, 0, 0, 250);
            int[] atOnce = {7, 320};
            rule("more from its start on: " + prints, x, atOnce, 4, 0, 0, 320);
            rule("a show of another film", x, NO_RULE, 4, 1, 0, 310);
            int[] last = {7, 414 - (prints > 1 ? 15 : 0)};
            rule("the last minute that is carried: " + prints, x, last, 4, 0, 0, prints > 1 ? 399 : 414);
            rule("the minute behind it: " + prints, x, NO_RULE, 4, 0, 0, 425);
        }
    }

    /** Rule 7 looks only at the minutes at which this show is under way. */
    private void ruleSevenOnlyUnderWay() {
        CinemaProgramme x = new CinemaProgramme();
        x.addHall(100, 0, 0);
        x.addHall(100, 0, 1);
        x.addHall(100, 0, 2);
        x.addFilm(100, 0, 1, 1, 0);
        x.set(2, 0);
        x.plan(0, 0, 0, 300);
        x.plan(1, 0, 0, 400);
        x.set(2, 60);
        rule("two others have no print from 400 to 459; this one ends ahead", x, NO_RULE, 2, 0, 0, 140);
        int[] first = {7, 300};
        rule("under way until 300", x, first, 2, 0, 0, 141);
        rule("under way from 560 on", x, NO_RULE, 2, 0, 0, 560);
        int[] carried = {7, 559};
        rule("under way from 559 on", x, carried, 2, 0, 0, 559);
    }

    /** The carrying time passes after the end, whether the hall is cleaned then or not; other films need no print. */
    private void carryingBeginsAtTheEnd() {
        CinemaProgramme x = new CinemaProgramme();
        x.addHall(100, 40, 0);
        x.addHall(100, 40, 1);
        x.addHall(100, 40, 2);
        x.addHall(100, 0, 2);
        x.addFilm(100, 0, 1, 1, 0);
        x.addFilm(30, 0, 1, 1, 0);
        x.set(1, 3);
        x.plan(0, 0, 0, 300);
        rule("its print is carried until the other one starts", x, NO_RULE, 1, 0, 0, 185);
        int[] before = {7, 300};
        rule("its print is carried a minute too long", x, before, 1, 0, 0, 186);
        rule("the print of the other one has been carried", x, NO_RULE, 1, 0, 0, 415);
        int[] behind = {7, 414};
        rule("the print of the other one is carried for a minute", x, behind, 1, 0, 0, 414);
        x.plan(3, 1, 1, 0);
        rule("a show of another film at the first minute", x, NO_RULE, 1, 0, 1, 0);
        rule("a show of another film at the second minute", x, NO_RULE, 1, 0, 1, 1);
        x.plan(3, 0, 2, 0);
        rule("a show of the film ahead at the first minute", x, NO_RULE, 1, 1, 2, 0);
    }

    /** No other show in a hall with the same exit ends less than the gap of exits before or after this one. */
    private void ruleEightBothSides() {
        for (int gap : new int[] {0, 1, 2, 29, 30}) {
            CinemaProgramme x = new CinemaProgramme();
            x.addHall(100, 0, 2);
            x.addHall(100, 0, 2);
            x.addHall(100, 0, 1);
            x.addFilm(100, 0, 1, 3, 0);
            x.set(0, gap);
            x.plan(0, 0, 0, 400);
            rule("an end that is the gap before: " + gap, x, NO_RULE, 1, 0, 0, 400 - gap);
            rule("an end that is the gap after: " + gap, x, NO_RULE, 1, 0, 0, 400 + gap);
            if (gap > 0) {
                int[] broken = {8, 0};
                rule("an end a minute less before: " + gap, x, broken, 1, 0, 0, 401 - gap);
                rule("an end a minute less after: " + gap, x, broken, 1, 0, 0, 399 + gap);
                rule("the same end", x, broken, 1, 0, 0, 400);
            }
            rule("the same end at another exit", x, NO_RULE, 2, 0, 0, 400);
        }
    }

    /** At each minute, at most as many halls as there are crews are cleaned, that of this show included. */
    private void ruleNineByCrews() {
        for (int crews = 1; crews <= 3; crews++) {
            CinemaProgramme x = new CinemaProgramme();
            for (int hall = 0; hall < 5; hall++) {
                x.addHall(100, 20, 0);
            }
            x.addFilm(100, 0, 1, 3, 0);
            x.addFilm(100, 0, 1, 3, 0);
            x.set(0, 0);
            x.set(1, crews);
            for (int hall = 0; hall < crews - 1; hall++) {
                x.plan(hall, 0, 0, 300 + hall);
            }
            rule("as many halls as there are crews: " + crews, x, NO_RULE, 4, 1, 0, 300);
            x.plan(3, 0, 0, 310);
            int[] crowded = {9, 410};
            rule("more halls than there are crews: " + crews, x, crowded, 4, 1, 0, 300);
            int[] atOnce = {9, 412};
            rule("more from its end on: " + crews, x, atOnce, 4, 1, 0, 312);
            rule("its cleaning ends as the other one begins", x, NO_RULE, 4, 1, 0, 290);
            int[] oneMinute = {9, 410};
            rule("its cleaning ends a minute later", x, oneMinute, 4, 1, 0, 291);
            rule("its cleaning begins as the other one ends", x, NO_RULE, 4, 1, 0, 330);
        }
    }

    /** Rule 9 looks only at the minutes at which the hall of this show is cleaned after it. */
    private void ruleNineOnlyWhileCleaned() {
        CinemaProgramme x = new CinemaProgramme();
        x.addHall(100, 20, 0);
        x.addHall(100, 20, 1);
        x.addHall(100, 5, 2);
        x.addHall(100, 0, 2);
        x.addFilm(100, 0, 1, 3, 0);
        x.set(0, 0);
        x.set(2, 0);
        x.plan(0, 0, 0, 300);
        x.plan(1, 0, 0, 310);
        x.set(1, 1);
        rule("two others are cleaned at 410; this one before", x, NO_RULE, 2, 0, 0, 295);
        int[] first = {9, 400};
        rule("cleaned until 400", x, first, 2, 0, 0, 296);
        int[] last = {9, 429};
        rule("cleaned from 429 on", x, last, 2, 0, 0, 329);
        rule("cleaned from 430 on", x, NO_RULE, 2, 0, 0, 330);
        rule("a cleaning time of 0 has no minutes", x, NO_RULE, 3, 0, 0, 315);
    }

    /** The detail of the rules 7 and 9 is the first minute of several, in whatever order the shows were planned. */
    private void firstMinuteOfSeveral() {
        int[][] orders = {{0, 1, 2}, {2, 1, 0}, {1, 0, 2}, {1, 2, 0}};
        for (int[] order : orders) {
            CinemaProgramme x = new CinemaProgramme();
            x.addHall(100, 0, 0);
            x.addHall(100, 0, 1);
            x.addFilm(30, 0, 1, 1, 0);
            x.set(2, 0);
            for (int k : order) {
                x.plan(0, 0, 0, 300 + 40 * k);
            }
            x.set(2, 60);
            int[] first = {7, 300};
            rule("one print, three shows in turn", x, first, 1, 0, 0, 295);
            int[] second = {7, 301};
            rule("one print, under way behind the first one's start", x, second, 1, 0, 0, 301);
            CinemaProgramme y = new CinemaProgramme();
            y.addHall(100, 10, 0);
            y.addHall(100, 10, 1);
            y.addHall(100, 10, 2);
            y.addHall(100, 40, 2);
            y.addFilm(30, 0, 1, 3, 0);
            y.addFilm(30, 0, 1, 1, 0);
            y.set(0, 0);
            for (int k : order) {
                y.plan(k, 0, 0, 300 + 10 * k);
            }
            y.set(1, 1);
            int[] cleaned = {9, 330};
            rule("one crew, three halls in turn", y, cleaned, 3, 1, 0, 295);
            int[] later = {9, 331};
            rule("one crew, cleaned behind the first one's end", y, later, 3, 1, 0, 301);
        }
    }

    /** A minute is not limited by the end of the day for that. */
    private void minutesBehindTheDay() {
        CinemaProgramme x = new CinemaProgramme();
        x.addHall(100, 40, 0);
        x.addHall(100, 40, 1);
        x.addHall(100, 10, 2);
        x.addFilm(100, 0, 1, 3, 0);
        x.set(1, 1);
        x.plan(0, 0, 0, 860);
        int[] behind = {9, 960};
        rule("two halls cleaned at 960", x, behind, 1, 0, 0, 860);
        rule("two halls cleaned at 960, one from 921 on", x, behind, 1, 0, 0, 821);
        rule("the other one cleaned until 960", x, NO_RULE, 1, 0, 0, 820);
        check.due("the hall is cleaned at 960", 1, () -> x.at(0, 960, 1));
        check.due("the hall is cleaned at 999", 1, () -> x.at(0, 999, 1));
        check.due("the hall is not cleaned at 1000", 0, () -> x.at(0, 1000, 1));
        check.due("the show runs at 959", 1, () -> x.at(0, 959, 0));
        check.due("no show runs at 960", 0, () -> x.at(0, 960, 0));
    }

    /** The detail of the rules 6 and 8 is the lowest number of another show. */
    private void lowestNumbers() {
        CinemaProgramme x = new CinemaProgramme();
        x.addHall(100, 0, 0);
        x.addHall(100, 0, 0);
        x.addFilm(30, 0, 1, 3, 0);
        x.addFilm(90, 0, 1, 3, 0);
        x.set(0, 30);
        x.plan(0, 0, 0, 300);
        x.plan(0, 0, 0, 260);
        x.plan(0, 0, 0, 340);
        int[] lowest = {6, 0};
        rule("three shows in the way, the lowest not the first", x, lowest, 0, 1, 0, 270);
        x.cancel(0);
        int[] next = {6, 1};
        rule("two shows in the way", x, next, 0, 1, 0, 270);
        x.move(1, 0, 100);
        int[] other = {6, 2};
        rule("one show in the way", x, other, 0, 1, 0, 270);
        x.undo();
        x.undo();
        int[] exit = {8, 0};
        rule("two shows at the exit", x, exit, 1, 0, 0, 320);
        int[] second = {8, 1};
        rule("one show at the exit", x, second, 1, 0, 0, 250);
    }

    /** The part is the receipts times the share, divided by 100 and rounded down. */
    private void receiptsAndParts() {
        CinemaProgramme x = cinema(2);
        x.set(5, 1);
        x.setShares(0, 33, 33, 0);
        x.plan(0, 0, 0, 0);
        x.plan(1, 0, 7, 0);
        int[][] due = {{3, 0}, {4, 1}, {6, 1}, {7, 2}, {100, 33}};
        for (int[] row : due) {
            int more = row[0] - x.show(0, 5);
            check.due("sell", row[0], () -> x.sell(0, more));
            check.due("the receipts of " + row[0] + " tickets", row[0], () -> x.show(0, 9));
            check.due("the part of " + row[0] + " tickets", row[1], () -> x.show(0, 10));
        }
        x.sell(1, 100);
        check.due("the part at a share of 0", 0, () -> x.show(1, 10));
        x.setShares(0, 100, 0, 100);
        check.due("the part at a share of 100", 100, () -> x.show(1, 10));
        check.due("the parts of all films", 200, () -> x.account(7));
        check.due("what is left", 0, () -> x.account(8));
        check.due("a cancelled show has no tickets", 100, () -> x.cancel(0));
        check.due("and no receipts", 0, () -> x.show(0, 9));
        check.due("and no part", 0, () -> x.show(0, 10));
    }

    /** A show runs from the start on until the minute before the end; then its hall is cleaned. */
    private void minuteByMinute() {
        CinemaProgramme x = new CinemaProgramme();
        x.addHall(7, 5, 0);
        x.addHall(400, 0, 1);
        x.addFilm(30, 0, 1, 3, 0);
        x.plan(1, 0, 0, 0);
        x.plan(0, 0, 0, 29);
        int[][] due = {{0, 1, 0, 400, 0}, {28, 1, 0, 400, 0}, {29, 2, 0, 407, 0}, {30, 1, 0, 7, 1}, {58, 1, 0, 7, 1},
            {59, 0, 1, 0, -1}, {63, 0, 1, 0, -1}, {64, 0, 0, 0, -1}, {1200, 0, 0, 0, -1}};
        for (int[] row : due) {
            for (int what = 0; what < 4; what++) {
                int asked = what;
                check.due("at(0, " + row[0] + ", " + what + ")", row[1 + what], () -> x.at(0, row[0], asked));
            }
        }
    }

    /** The minutes of cleaning are those before minute 960. */
    private void usedAtTheEndOfTheDay() {
        int[][] due = {{919, 40, 890}, {920, 40, 890}, {921, 39, 891}, {959, 1, 929}, {960, 0, 930}};
        for (int[] row : due) {
            CinemaProgramme x = new CinemaProgramme();
            x.addHall(7, 40, 0);
            x.addFilm(30, 0, 1, 3, 0);
            x.plan(0, 0, 0, row[0] - 30);
            int[] parts = {30, row[1], 930 - row[1], row[0] - 30, row[0]};
            for (int what = 0; what < parts.length; what++) {
                int asked = what;
                check.due("used with an end of " + row[0] + ", " + what, parts[what], () -> x.used(0, 0, asked));
            }
        }
    }
}
