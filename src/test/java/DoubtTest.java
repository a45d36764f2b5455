/** The paragraph "In doubt", sentence by sentence. */
final class DoubtTest {
    private final Check check = new Check("DoubtTest");

    private DoubtTest() {
    }

    public static void main(String[] args) {
        DoubtTest test = new DoubtTest();
        test.sharesSetLater();
        test.noCleaningTime();
        test.noCarryingTime();
        test.todayIsNotOver();
        test.plannedShowsStay();
        test.movedToWhereItIs();
        test.placeKeepsReelPriceTickets();
        test.exitsInTheSameHall();
        test.failureGivesTicketsBack();
        test.failureWithoutShows();
        test.bestFilm();
        test.fullWeek();
        test.releaseOfTheTrailersFilm();
        test.beginAsTheCleaningEnds();
        test.gapOfNothing();
        test.placeWithinTheDay();
        test.placeKeepsAllRules();
        test.partsRoundedShowByShow();
        test.priceOfThen();
        test.whyKeepsNoReason();
        test.closedNone();
        test.reopeningBringsNothingBack();
        test.letterBehindAWord();
        test.numbersTooGreat();
        test.check.end();
    }

    /** Two halls of 100 and 50 seats with the exits 0 and 1, without cleaning; film 0 of 100 minutes, three prints. */
    private static CinemaProgramme cinema() {
        CinemaProgramme x = new CinemaProgramme();
        x.addHall(100, 0, 0);
        x.addHall(50, 0, 1);
        x.addFilm(100, 1, 1, 3, 0);
        return x;
    }

    private void place(CinemaProgramme x, int show, int hall, int start) {
        check.due("the hall of show " + show, hall, () -> x.show(show, 0));
        check.due("the start of show " + show, start, () -> x.show(show, 3));
    }

    private void sharesSetLater() {
        CinemaProgramme x = cinema();
        x.plan(0, 0, 7, 0);
        x.sell(0, 10);
        check.due("the part at the first shares", 50, () -> x.show(0, 10));
        x.setShares(0, 80, 5, 0);
        check.due("the part at shares that were set later", 75, () -> x.show(0, 10));
        check.due("the part of the film", 75, () -> x.film(0, 8));
        check.due("the parts of all films", 75, () -> x.account(7));
        check.due("the receipts minus these parts", 25, () -> x.account(8));
        x.advance(20);
        x.setShares(0, 20, 0, 0);
        check.due("the part of a show that is over", 20, () -> x.show(0, 10));
    }

    private void noCleaningTime() {
        CinemaProgramme x = cinema();
        x.set(1, 1);
        x.set(0, 0);
        x.plan(0, 0, 0, 100);
        check.due("a show at the very end of another", 1, () -> x.plan(0, 0, 0, 200));
        check.due("two ends at once with one crew", 2, () -> x.plan(1, 0, 0, 100));
        check.due("no hall is cleaned", 0, () -> x.at(0, 200, 1));
        check.due("no minutes of cleaning", 0, () -> x.used(0, 0, 1));
    }

    private void noCarryingTime() {
        CinemaProgramme x = new CinemaProgramme();
        x.addHall(100, 0, 0);
        x.addHall(100, 0, 1);
        x.addHall(100, 0, 2);
        x.addFilm(100, 1, 1, 1, 0);
        x.set(2, 0);
        x.plan(0, 0, 0, 100);
        check.due("the print at its end", 1, () -> x.plan(1, 0, 0, 200));
        check.due("the print until its start", 2, () -> x.plan(1, 0, 0, 0));
        check.due("a minute too early", 7, () -> x.why(2, 0, 0, 299, false));
        check.due("the print at the end of the second one", 0, () -> x.why(2, 0, 0, 300, false));
    }

    private void todayIsNotOver() {
        CinemaProgramme x = cinema();
        x.plan(0, 0, 3, 0);
        x.plan(1, 0, 3, 300);
        x.advance(3);
        check.due("a show of today", 0, () -> x.show(0, 8));
        check.due("sell today", 2, () -> x.sell(0, 2));
        check.due("move today", 5, () -> x.move(0, 0, 5));
        check.due("plan today", 2, () -> x.plan(0, 0, 3, 500));
        check.due("cancel today", 0, () -> x.cancel(1));
        check.due("fail today", 0, () -> x.fail(0, 3));
        place(x, 0, 1, 5);
        place(x, 2, 1, 500);
    }

    private static String shows(CinemaProgramme x) {
        StringBuilder shows = new StringBuilder();
        for (int show = 0; show < x.account(3); show++) {
            for (int what = 0; what <= 11; what++) {
                shows.append(x.show(show, what)).append(' ');
            }
        }
        return shows.toString();
    }

    /** Settings, limits and closed halls do not touch shows that have been planned. */
    private void plannedShowsStay() {
        CinemaProgramme x = cinema();
        x.addHall(100, 20, 0);
        x.addFilm(30, 0, 1, 1, 50);
        x.addTrailer(1, 6, 0, 1);
        x.plan(0, 0, 5, 100);
        x.plan(1, 0, 5, 110);
        x.plan(2, 0, 5, 111);
        x.plan(0, 0, 6, 800);
        x.sell(1, 7);
        String before = shows(x);
        int[] values = {30, 1, 60, 0, 0, 99};
        for (int number = 0; number < values.length; number++) {
            x.set(number, values[number]);
            check.same("the shows after setting " + number, before, shows(x));
        }
        x.setLimit(1, 0);
        x.setLimit(13, 0);
        check.same("the shows after two limits", before, shows(x));
        x.fail(0, 7);
        check.same("the shows after a hall is closed behind them", before, shows(x));
        check.due("a sale above the limit", 1, () -> x.sell(0, 1));
        check.due("a show above the limit is cancelled", 7, () -> x.cancel(1));
    }

    private void movedToWhereItIs() {
        CinemaProgramme x = cinema();
        x.plan(0, 0, 5, 100);
        check.due("move to the place where it is", 0, () -> x.move(0, 0, 100));
        place(x, 0, 0, 100);
        check.due("it is a change", 4, () -> x.undo());
        x.setLimit(1, 0);
        check.fails("a limit that was set later", Check.REFUSED, () -> x.move(0, 0, 100));
        check.due("its reason", 4, () -> x.refusal(false));
        place(x, 0, 0, 100);
    }

    private void placeKeepsReelPriceTickets() {
        CinemaProgramme x = cinema();
        x.addFilm(30, 0, 1, 1, 50);
        x.addTrailer(1, 6, 0, 1);
        x.plan(0, 0, 5, 100);
        x.sell(0, 50);
        x.set(5, 20);
        x.addTrailer(1, 4, 0, 1);
        x.setLimit(0, 0);
        x.fail(0, 5);
        int[] due = {1, 0, 5, 100, 206, 50, 1, 10, 0, 500, 300, 6};
        for (int what = 0; what < due.length; what++) {
            int asked = what;
            check.due("show(0, " + what + ") in its new place", due[what], () -> x.show(0, asked));
        }
    }

    /** Two shows of one hall never end less than 30 minutes apart, so no gap is broken by them. */
    private void exitsInTheSameHall() {
        CinemaProgramme x = new CinemaProgramme();
        x.addHall(100, 0, 0);
        x.addFilm(30, 0, 1, 3, 0);
        x.set(0, 30);
        x.set(2, 0);
        x.plan(0, 0, 0, 100);
        check.due("an end 30 minutes after that in the same hall", 1, () -> x.plan(0, 0, 0, 130));
        check.due("an end 30 minutes before that in the same hall", 2, () -> x.plan(0, 0, 0, 70));
    }

    private void failureGivesTicketsBack() {
        CinemaProgramme x = cinema();
        x.plan(0, 0, 5, 100);
        x.plan(0, 0, 5, 300);
        x.sell(0, 51);
        x.sell(1, 50);
        check.due("one show has too many tickets", 1, () -> x.fail(0, 5));
        check.due("the tickets given back", 51, () -> x.account(9));
        check.due("its tickets", 0, () -> x.show(0, 5));
        check.due("its receipts", 0, () -> x.show(0, 9));
        check.due("the tickets of its line", 51, () -> x.line(0, 4));
        check.due("the tickets of the other one", 50, () -> x.show(1, 5));
        check.due("the tickets of its line", 50, () -> x.line(1, 4));
        check.due("all tickets", 50, () -> x.account(5));
    }

    private void failureWithoutShows() {
        CinemaProgramme x = cinema();
        x.plan(0, 0, 5, 100);
        x.plan(0, 0, 5, 300);
        x.fail(0, 5);
        check.due("a line", 1, () -> x.line(1, 0));
        x.cancel(0);
        x.cancel(1);
        check.due("a failure without shows", 0, () -> x.fail(1, 0));
        check.fails("it has no lines", Check.NO_ELEMENT, () -> x.line(0, 0));
        x.undo();
        check.due("the line of the failure ahead of it", 0, () -> x.line(0, 0));
        x.reopen(0);
        check.due("a line after reopen", 1, () -> x.line(1, 0));
        x.plan(0, 0, 9, 100);
        x.fail(0, 9);
        check.due("the latest failure has a line", 2, () -> x.line(0, 0));
        check.fails("and no second one", Check.NO_ELEMENT, () -> x.line(1, 0));
    }

    private void bestFilm() {
        CinemaProgramme x = cinema();
        x.addFilm(100, 0, 1, 3, 0);
        check.due("films without shows: the lowest", 0, () -> x.bestFilm());
        x.plan(0, 1, 0, 0);
        check.due("a film without tickets", 0, () -> x.bestFilm());
        x.sell(0, 1);
        check.due("the film with a ticket", 1, () -> x.bestFilm());
        x.plan(0, 0, 0, 200);
        x.sell(1, 1);
        check.due("of several the lowest", 0, () -> x.bestFilm());
        x.sell(0, 1);
        check.due("the most tickets", 1, () -> x.bestFilm());
        x.cancel(0);
        check.due("a cancelled show does not count", 0, () -> x.bestFilm());
        x.advance(1);
        check.due("a show that is over counts", 0, () -> x.bestFilm());
    }

    private void fullWeek() {
        CinemaProgramme x = cinema();
        check.due("six days", 60, () -> x.share(0, 6));
        check.due("seven days", 50, () -> x.share(0, 7));
        check.due("thirteen days", 50, () -> x.share(0, 13));
        check.due("fourteen days", 40, () -> x.share(0, 14));
    }

    private void releaseOfTheTrailersFilm() {
        CinemaProgramme x = cinema();
        x.addFilm(30, 0, 1, 1, 10);
        x.addTrailer(1, 5, 0, 1);
        x.plan(0, 0, 9, 0);
        x.plan(0, 0, 10, 0);
        check.due("the day of the show is before the release", 5, () -> x.show(0, 11));
        check.due("the day of the show is that of the release", 0, () -> x.show(1, 11));
        x.advance(9);
        check.due("today does not count", 5, () -> x.reel(0, 9, true));
        x.advance(1);
        check.due("today does not count, even on the release day", 5, () -> x.reel(0, 9, true));
        x.advance(1);
        x.plan(0, 0, 11, 0);
        check.due("the day of the show is behind the release", 0, () -> x.show(2, 11));
    }

    private void beginAsTheCleaningEnds() {
        CinemaProgramme x = new CinemaProgramme();
        x.addHall(100, 25, 0);
        x.addFilm(100, 0, 1, 3, 0);
        x.plan(0, 0, 0, 200);
        check.due("the cleaning has not ended", 6, () -> x.why(0, 0, 0, 324, false));
        check.due("the cleaning has ended", 1, () -> x.plan(0, 0, 0, 325));
        check.due("its own cleaning would not end", 6, () -> x.why(0, 0, 0, 76, false));
        check.due("its own cleaning ends", 2, () -> x.plan(0, 0, 0, 75));
    }

    private void gapOfNothing() {
        CinemaProgramme x = cinema();
        x.addHall(100, 0, 0);
        x.plan(0, 0, 0, 100);
        check.due("the same end", 8, () -> x.why(2, 0, 0, 100, false));
        x.set(0, 1);
        check.due("the same end with a gap of 1", 8, () -> x.why(2, 0, 0, 100, false));
        x.set(0, 0);
        check.due("the same end with a gap of 0", 0, () -> x.why(2, 0, 0, 100, false));
        check.due("a plan with a gap of 0", 1, () -> x.plan(2, 0, 0, 100));
    }

    private void placeWithinTheDay() {
        CinemaProgramme x = cinema();
        x.addFilm(30, 0, 1, 1, 0);
        x.plan(0, 0, 5, 9);
        x.plan(1, 1, 5, 100);
        check.due("a place at 0", 0, () -> x.fail(0, 5));
        place(x, 0, 1, 0);
        x.undo();
        x.move(1, 1, 99);
        check.due("no place below 0, and none within the shift behind", 1, () -> x.fail(0, 5));
        x.undo();
        x.set(4, 119);
        check.due("a shift that is a minute too short", 1, () -> x.fail(0, 5));
        x.undo();
        x.set(4, 120);
        check.due("a place at the end of the other show", 0, () -> x.fail(0, 5));
        place(x, 0, 1, 129);
        CinemaProgramme y = cinema();
        y.addFilm(30, 0, 1, 1, 0);
        y.plan(0, 0, 5, 855);
        y.plan(1, 1, 5, 830);
        check.due("a place that ends at 960", 0, () -> y.fail(0, 5));
        place(y, 0, 1, 860);
        y.undo();
        y.move(1, 1, 831);
        check.due("no place that ends at 961", 1, () -> y.fail(0, 5));
    }

    private void placeKeepsAllRules() {
        CinemaProgramme x = new CinemaProgramme();
        x.addHall(100, 0, 0);
        x.addHall(100, 0, 1);
        x.addHall(100, 0, 2);
        x.addFilm(100, 1, 1, 3, 0);
        x.plan(0, 0, 5, 600);
        x.fail(1, 5);
        check.due("a closed hall is no place", 0, () -> x.fail(0, 5));
        place(x, 0, 2, 600);
        check.due("no hall is left", 1, () -> x.fail(2, 5));
        x.undo();
        x.undo();
        x.undo();
        x.fail(1, 6);
        check.due("a hall that closes on the day after is a place", 0, () -> x.fail(0, 5));
        place(x, 0, 1, 600);
        x.undo();
        x.setLimit(10, 0);
        check.due("a limit counts", 0, () -> x.fail(0, 5));
        place(x, 0, 1, 599);
        x.undo();
        x.set(4, 0);
        check.due("a limit counts, and no other start is near enough", 1, () -> x.fail(0, 5));
    }

    private void partsRoundedShowByShow() {
        CinemaProgramme x = cinema();
        x.set(5, 1);
        x.setShares(0, 50, 0, 0);
        x.plan(0, 0, 0, 0);
        x.plan(1, 0, 0, 0);
        x.sell(0, 1);
        x.sell(1, 1);
        check.due("the part of one show", 0, () -> x.show(0, 10));
        check.due("twice a half, each rounded down", 0, () -> x.film(0, 8));
        check.due("the same as an account", 0, () -> x.account(7));
        check.due("the receipts minus nothing", 2, () -> x.account(8));
    }

    private void priceOfThen() {
        CinemaProgramme x = cinema();
        x.plan(0, 0, 5, 0);
        x.set(5, 99);
        x.sell(0, 2);
        check.due("the price with which it was planned", 10, () -> x.show(0, 7));
        check.due("the receipts at this price", 20, () -> x.show(0, 9));
        x.move(0, 1, 50);
        check.due("the price after a move", 10, () -> x.show(0, 7));
        x.plan(0, 0, 5, 0);
        x.sell(1, 1);
        check.due("the receipts of both", 119, () -> x.account(6));
    }

    private void whyKeepsNoReason() {
        CinemaProgramme x = cinema();
        x.plan(0, 0, 5, 100);
        check.due("why", 6, () -> x.why(0, 0, 5, 100, false));
        check.fails("no reason", Check.NO_ELEMENT, () -> x.refusal(false));
        check.fails("a refusal", Check.REFUSED, () -> x.plan(0, 0, 5, 900));
        check.due("why again", 0, () -> x.why(0, 0, 5, 100, true));
        check.due("the reason of before", 5, () -> x.refusal(false));
        check.due("its detail", 1000, () -> x.refusal(true));
        x.fail(1, 0);
        x.fail(0, 0);
        check.due("a failure keeps no reason", 5, () -> x.refusal(false));
    }

    private void closedNone() {
        CinemaProgramme x = cinema();
        x.fail(0, 5);
        check.due("write", 12, () -> x.write(0, 5));
        check.same("a closed hall without shows", "closed: none", Check.written(x));
        check.due("write of the day before", 4, () -> x.write(0, 4));
        check.same("a hall that closes on the next day", "none", Check.written(x));
        check.due("write of another hall", 4, () -> x.write(1, 5));
        check.same("another hall", "none", Check.written(x));
    }

    private void reopeningBringsNothingBack() {
        CinemaProgramme x = cinema();
        x.plan(0, 0, 5, 100);
        x.plan(0, 0, 5, 300);
        x.sell(1, 51);
        x.fail(0, 5);
        check.due("reopen", 5, () -> x.reopen(0));
        place(x, 0, 1, 100);
        check.due("the cancelled show stays cancelled", 1, () -> x.show(1, 8));
        check.due("its tickets stay given back", 51, () -> x.account(9));
        check.due("no show in the hall", 0, () -> x.hall(0, 4));
    }

    private void error(String text, int position) {
        CinemaProgramme x = cinema();
        x.plan(0, 0, 0, 0);
        Check.type(x, text);
        check.fails("perform of \"" + text + "\"", Check.ARGUMENT, () -> x.perform());
        check.due("the error position of \"" + text + "\"", position, () -> x.errorPosition());
    }

    private void letterBehindAWord() {
        String[] words = {"plan", "sell", "drop", "fail", "days"};
        for (String word : words) {
            error(word + "s 0 0", 4);
            error(word + "a", 4);
            error(word + word, 4);
        }
    }

    private void numbersTooGreat() {
        String[] texts = {"days 31", "days 60", "days 999", "plan 6 0 0 0", "plan 0 8 0 0", "plan 0 0 60 0",
            "plan 0 0 0 960", "sell 30 1", "sell 0 401", "sell 0 999", "drop 30", "drop 999", "fail 6 0", "fail 0 60",
            "fail 0 999"};
        for (String text : texts) {
            CinemaProgramme x = cinema();
            x.plan(0, 0, 0, 0);
            Check.type(x, text);
            check.fails("perform of \"" + text + "\"", Check.REFUSED, () -> x.perform());
            check.fails("the error position", Check.NO_ELEMENT, () -> x.errorPosition());
            check.fails("the reason", Check.NO_ELEMENT, () -> x.refusal(false));
        }
        error("days 1000", 8);
        error("sell 0 1000", 10);
    }
}
