/** What the promises themselves name beside ranges and exceptions: the show itself, old places, full days, sums. */
final class PromiseEdgesTest {
    private final Check check = new Check("PromiseEdgesTest");

    private PromiseEdgesTest() {
    }

    public static void main(String[] args) {
        PromiseEdgesTest test = new PromiseEdgesTest();
        test.theShowItselfIsNoOther();
        test.moveRefusedByEachRule();
        test.manyShowsOfOneDay();
        test.filmAndDayOfAReel();
        test.filmOfAMove();
        test.filmOfAShare();
        test.oldPlacesAreFree();
        test.minutesOfAMove();
        test.sharesAreReturned();
        test.previousValues();
        test.statesOfAShow();
        test.firstStarts();
        test.sumsFollowTheShows();
        test.fullDay();
        test.firstAndLastOfADay();
        test.lowestShowThatRuns();
        test.bestOfEightFilms();
        test.bestByTickets();
        test.useOfHalls();
        test.ticketsGivenBack();
        test.longestAndShortestProgramme();
        test.writtenAnew();
        test.check.end();
    }

    /** Halls of 100 seats, the first two with exit 0, the third with exit 1, all cleaned in so many minutes. */
    private static CinemaProgramme cinema(int cleaning, int prints) {
        CinemaProgramme x = new CinemaProgramme();
        x.addHall(100, cleaning, 0);
        x.addHall(100, cleaning, 0);
        x.addHall(100, cleaning, 1);
        x.addFilm(60, 1, 1, prints, 0);
        return x;
    }

    private void theShowItselfIsNoOther() {
        CinemaProgramme x = cinema(40, 1);
        x.set(0, 30);
        x.set(1, 1);
        x.set(2, 60);
        x.plan(0, 0, 0, 300);
        check.due("rule 6: a minute later in the same hall", 1, () -> x.move(0, 0, 301));
        check.due("rule 7: its own print", 1, () -> x.move(0, 2, 300));
        check.due("rule 8: its own end at the same exit", 1, () -> x.move(0, 2, 301));
        check.due("rule 8: in another hall with this exit", 1, () -> x.move(0, 1, 302));
        check.due("rule 9: its own cleaning", 10, () -> x.move(0, 2, 292));
        check.due("all of them, where it is", 0, () -> x.move(0, 2, 292));
    }

    private void refused(CinemaProgramme x, int show, int hall, int start, int reason, int detail) {
        String what = "move(" + show + ", " + hall + ", " + start + ")";
        int place = 1000 * x.show(show, 0) + x.show(show, 3);
        check.fails(what, Check.REFUSED, () -> x.move(show, hall, start));
        check.due("the reason of " + what, reason, () -> x.refusal(false));
        check.due("the detail of " + what, detail, () -> x.refusal(true));
        check.due("the place after " + what, place, () -> 1000 * x.show(show, 0) + x.show(show, 3));
    }

    private void moveRefusedByEachRule() {
        CinemaProgramme x = cinema(0, 2);
        x.set(2, 0);
        x.plan(0, 0, 5, 0);
        x.plan(1, 0, 5, 300);
        x.plan(2, 0, 5, 330);
        x.setLimit(2, 0);
        refused(x, 0, 0, 120, 4, 0);
        refused(x, 0, 0, 901, 5, 961);
        refused(x, 0, 1, 359, 6, 1);
        refused(x, 0, 1, 241, 6, 1);
        refused(x, 0, 0, 330, 7, 330);
        refused(x, 0, 0, 299, 7, 330);
        refused(x, 0, 0, 291, 7, 330);
        x.addFilm(30, 0, 1, 1, 0);
        x.plan(0, 1, 5, 500);
        refused(x, 3, 0, 321, 8, 1);
        refused(x, 3, 0, 339, 8, 1);
        check.due("an end that is the gap after", 160, () -> x.move(3, 0, 340));
        check.due("an end that is the gap before", 20, () -> x.move(3, 0, 320));
        x.fail(1, 9);
        x.plan(0, 1, 9, 0);
        refused(x, 4, 1, 0, 2, 1);
        CinemaProgramme y = cinema(10, 3);
        y.set(1, 1);
        y.set(0, 0);
        y.plan(0, 0, 5, 0);
        y.plan(1, 0, 5, 300);
        refused(y, 0, 0, 300, 9, 360);
        refused(y, 0, 0, 309, 9, 369);
        refused(y, 0, 0, 291, 9, 360);
        check.due("its cleaning begins as the other one ends", 310, () -> y.move(0, 0, 310));
        check.due("its cleaning ends as the other one begins", 20, () -> y.move(0, 0, 290));
    }

    private void breaks(CinemaProgramme x, int rule, int detail, int hall, int film, int day, int start) {
        String place = "(" + hall + ", " + film + ", " + day + ", " + start + ")";
        check.due("why" + place, rule, () -> x.why(hall, film, day, start, false));
        check.due("the detail of why" + place, detail, () -> x.why(hall, film, day, start, true));
        if (rule != 0) {
            check.fails("plan" + place, Check.REFUSED, () -> x.plan(hall, film, day, start));
            check.due("the reason of plan" + place, rule, () -> x.refusal(false));
            check.due("the detail of plan" + place, detail, () -> x.refusal(true));
        }
    }

    /** All other shows of the day count, up to the last one of thirty. */
    private void manyShowsOfOneDay() {
        CinemaProgramme x = new CinemaProgramme();
        x.addHall(10, 0, 0);
        x.addHall(10, 0, 0);
        x.addHall(10, 0, 1);
        x.addHall(10, 5, 2);
        x.addHall(10, 5, 1);
        x.addFilm(30, 0, 1, 3, 0);
        x.addFilm(30, 0, 1, 1, 0);
        x.set(2, 0);
        x.set(0, 10);
        x.set(1, 1);
        for (int show = 0; show < 27; show++) {
            x.plan(0, 0, 7, 30 * show);
        }
        x.plan(0, 0, 7, 810);
        x.plan(2, 1, 7, 850);
        x.plan(3, 0, 7, 880);
        breaks(x, 6, 27, 0, 0, 7, 839);
        breaks(x, 6, 28, 2, 0, 7, 860);
        breaks(x, 6, 29, 3, 0, 7, 914);
        breaks(x, 7, 850, 1, 1, 7, 825);
        breaks(x, 8, 27, 1, 0, 7, 819);
        breaks(x, 8, 28, 4, 0, 7, 859);
        breaks(x, 9, 910, 4, 0, 7, 876);
        check.fails("a place for a show too many", Check.REFUSED, () -> x.plan(4, 0, 7, 900));
        check.due("its reason", 10, () -> x.refusal(false));
        check.due("the first start behind all of them", 840, () -> x.firstStart(0, 0, 7, 0));
        check.due("the last of them runs", 29, () -> x.at(7, 880, 3));
        check.due("28 shows in a row", 840, () -> x.used(0, 7, 0));
    }

    /** Numbers that differ, each of which counts: hall 3, film 1, the days 9 and 10. */
    private static CinemaProgramme cinemaWithReels() {
        CinemaProgramme x = new CinemaProgramme();
        for (int hall = 0; hall < 4; hall++) {
            x.addHall(100 + hall, hall, hall % 3);
        }
        x.addFilm(240, 3, 0b100000, 1, 0);
        x.addFilm(30, 1, 0b000001, 3, 5);
        x.addFilm(60, 0, 0b000010, 2, 10);
        x.addFilm(100, 2, 0b000100, 2, 0);
        x.addTrailer(2, 4, 1, 0b000011);
        return x;
    }

    private void filmAndDayOfAReel() {
        CinemaProgramme x = cinemaWithReels();
        int[][] reels = {{0, 9, 0}, {1, 9, 4}, {1, 10, 0}, {2, 9, 0}, {3, 9, 0}, {1, 0, 4}};
        for (int[] row : reels) {
            check.due("the reel of film " + row[0] + " on day " + row[1], row[2], () -> x.reel(row[0], row[1], true));
        }
        breaks(x, 0, -1, 3, 1, 9, 926);
        breaks(x, 5, 961, 3, 1, 9, 927);
        breaks(x, 0, -1, 3, 1, 10, 930);
        breaks(x, 5, 961, 3, 1, 10, 931);
        breaks(x, 3, 5, 3, 1, 4, 926);
        check.due("firstStart with a reel", 926, () -> x.firstStart(3, 1, 9, 926));
        check.fails("firstStart with a reel, too late", Check.NO_ELEMENT, () -> x.firstStart(3, 1, 9, 927));
        check.due("firstStart without a reel", 930, () -> x.firstStart(3, 1, 10, 930));
        check.fails("firstStart without a reel, too late", Check.NO_ELEMENT, () -> x.firstStart(3, 1, 10, 931));
        x.plan(3, 1, 9, 926);
        x.plan(3, 1, 10, 930);
        int[][] due = {{3, 1, 9, 926, 960, 0, 1, 10, 0, 0, 0, 4}, {3, 1, 10, 930, 960, 0, 0, 10, 0, 0, 0, 0}};
        for (int show = 0; show < 2; show++) {
            for (int what = 0; what < 12; what++) {
                int asked = show;
                int part = what;
                check.due("show(" + show + ", " + what + ")", due[show][what], () -> x.show(asked, part));
            }
        }
        Check.type(x, "plan 2 1 8 926;plan 2 1 11 930");
        check.due("plans of a text", 2, () -> x.perform());
        check.due("the reel of the first", 4, () -> x.show(2, 11));
        check.due("the reel of the second", 0, () -> x.show(3, 11));
    }

    /** The rules for a move look at the film of the show, its day, its reel and its length of then. */
    private void filmOfAMove() {
        CinemaProgramme x = cinemaWithReels();
        x.plan(3, 1, 9, 100);
        x.set(3, 0);
        x.setLimit(5, 0);
        x.setLimit(6, 1);
        refused(x, 0, 3, 927, 5, 961);
        refused(x, 0, 3, 300, 4, 0);
        check.due("a limit that is just the rating of this film", 260, () -> x.move(0, 3, 360));
        check.due("the last start of this film", 566, () -> x.move(0, 2, 926));
        x.fail(2, 9);
        check.due("a failure finds a place for this film", 0, () -> x.show(0, 0));
        check.due("at the same start", 926, () -> x.show(0, 3));
        x.set(4, 120);
        x.setLimit(15, 0);
        x.fail(0, 9);
        check.due("a failure looks at the rating of this film", 1, () -> x.show(0, 0));
        check.due("at the last start of the hour ahead", 899, () -> x.show(0, 3));
    }

    private void filmOfAShare() {
        CinemaProgramme x = cinemaWithReels();
        x.setShares(0, 90, 0, 0);
        x.setShares(1, 70, 20, 0);
        x.setShares(3, 30, 0, 0);
        x.plan(3, 1, 12, 100);
        x.plan(0, 3, 12, 100);
        x.plan(3, 0, 12, 400);
        x.sell(0, 10);
        x.sell(1, 20);
        x.sell(2, 30);
        int[][] films = {{0, 1, 30, 300, 270}, {1, 1, 10, 100, 50}, {2, 0, 0, 0, 0}, {3, 1, 20, 200, 60}};
        for (int[] row : films) {
            for (int what = 5; what <= 8; what++) {
                int asked = what;
                check.due("film(" + row[0] + ", " + what + ")", row[what - 4], () -> x.film(row[0], asked));
            }
        }
        check.due("the part at the share of film 1", 50, () -> x.show(0, 10));
        check.due("the part at the share of film 3", 60, () -> x.show(1, 10));
        check.due("the part at the share of film 0", 270, () -> x.show(2, 10));
        check.due("all parts", 380, () -> x.account(7));
        x.plan(3, 1, 13, 100);
        x.sell(3, 10);
        check.due("two shows of film 1", 2, () -> x.film(1, 5));
        check.due("the part of both", 100, () -> x.film(1, 8));
    }

    private void oldPlacesAreFree() {
        CinemaProgramme x = cinema(10, 1);
        x.plan(0, 0, 0, 300);
        check.due("a place that is taken", 6, () -> x.why(0, 0, 0, 300, false));
        x.move(0, 2, 500);
        check.due("the place that it has left", 0, () -> x.why(0, 0, 0, 300, false));
        check.due("the place that it has taken", 6, () -> x.why(2, 0, 0, 500, false));
        x.cancel(0);
        check.due("the place of a cancelled show", 0, () -> x.why(2, 0, 0, 500, false));
        check.due("a plan there", 1, () -> x.plan(2, 0, 0, 500));
        x.fail(2, 0);
        x.reopen(2);
        check.due("the hall to which a failure has moved it", 0, () -> x.show(1, 0));
        check.due("its print is elsewhere", 7, () -> x.why(2, 0, 0, 500, false));
    }

    private void minutesOfAMove() {
        CinemaProgramme x = cinema(0, 1);
        x.plan(0, 0, 0, 900);
        check.due("from the last start to the first", 900, () -> x.move(0, 0, 0));
        check.due("from the first start to the last", 900, () -> x.move(0, 0, 900));
        check.due("a minute less", 1, () -> x.move(0, 0, 899));
        check.due("a minute more, in another hall", 1, () -> x.move(0, 1, 900));
        check.due("the same start in another hall", 0, () -> x.move(0, 2, 900));
    }

    private void sharesAreReturned() {
        CinemaProgramme x = cinema(0, 1);
        check.due("the first share at first", 60, () -> x.setShares(0, 0, 0, 0));
        check.due("a first share of 0", 0, () -> x.setShares(0, 100, 0, 0));
        check.due("a first share of 100", 100, () -> x.setShares(0, 100, 0, 0));
        x.addFilm(30, 0, 1, 1, 0);
        check.due("the first share of another film", 60, () -> x.setShares(1, 7, 0, 0));
    }

    private void previousValues() {
        CinemaProgramme x = new CinemaProgramme();
        check.due("the price at first", 10, () -> x.set(5, 99));
        check.due("the greatest price", 99, () -> x.set(5, 1));
        check.due("the least price", 1, () -> x.set(5, 1));
        check.due("the limit at first", 3, () -> x.setLimit(15, 0));
        check.due("the least limit", 0, () -> x.setLimit(15, 0));
        check.due("another hour", 3, () -> x.setLimit(14, 2));
    }

    private void statesOfAShow() {
        CinemaProgramme x = cinema(0, 1);
        x.plan(0, 0, 1, 0);
        check.due("a show of tomorrow", 0, () -> x.show(0, 8));
        x.advance(1);
        check.due("a show of today", 0, () -> x.show(0, 8));
        x.advance(1);
        check.due("a show of yesterday", 2, () -> x.show(0, 8));
        x.undo();
        x.cancel(0);
        check.due("a cancelled show of today", 1, () -> x.show(0, 8));
        x.advance(1);
        check.due("a cancelled show of yesterday", 1, () -> x.show(0, 8));
    }

    private void firstStarts() {
        CinemaProgramme x = cinema(10, 1);
        x.addFilm(30, 0, 1, 1, 0);
        x.plan(0, 1, 0, 100);
        check.due("the minute itself", 30, () -> x.firstStart(0, 0, 0, 30));
        check.due("behind the show", 140, () -> x.firstStart(0, 0, 0, 31));
        check.due("behind the show, from its start on", 140, () -> x.firstStart(0, 0, 0, 100));
        check.due("behind the show, from a minute before", 140, () -> x.firstStart(0, 0, 0, 139));
        check.due("behind the show, from this minute", 140, () -> x.firstStart(0, 0, 0, 140));
        check.due("the last start of the day", 900, () -> x.firstStart(0, 0, 0, 900));
        check.fails("none any more", Check.NO_ELEMENT, () -> x.firstStart(0, 0, 0, 901));
        x.fail(0, 1);
        check.due("the day before it is closed", 900, () -> x.firstStart(0, 0, 0, 900));
        check.fails("a closed hall", Check.NO_ELEMENT, () -> x.firstStart(0, 0, 1, 0));
        for (int hour = 0; hour < 15; hour++) {
            x.setLimit(hour, 0);
        }
        check.due("the first minute of the last hour", 900, () -> x.firstStart(1, 0, 1, 0));
        x.setLimit(15, 0);
        check.fails("no hour is left", Check.NO_ELEMENT, () -> x.firstStart(1, 0, 1, 0));
        check.due("a rating that every limit allows", 0, () -> x.firstStart(1, 1, 1, 0));
    }

    private void sums(CinemaProgramme x, int hall, int shows, int minutes, int tickets) {
        check.due("the shows of hall " + hall, shows, () -> x.hall(hall, 4));
        check.due("the minutes of hall " + hall, minutes, () -> x.hall(hall, 5));
        check.due("the tickets of hall " + hall, tickets, () -> x.hall(hall, 6));
    }

    private void sumsFollowTheShows() {
        CinemaProgramme x = cinema(0, 3);
        x.plan(0, 0, 0, 0);
        x.plan(0, 0, 3, 0);
        x.sell(0, 3);
        x.sell(1, 4);
        sums(x, 0, 2, 120, 7);
        x.move(1, 1, 0);
        sums(x, 0, 1, 60, 3);
        sums(x, 1, 1, 60, 4);
        x.advance(1);
        sums(x, 0, 1, 60, 3);
        x.fail(1, 3);
        sums(x, 1, 0, 0, 0);
        sums(x, 0, 2, 120, 7);
        x.cancel(1);
        sums(x, 0, 1, 60, 3);
        check.due("the shows of the film", 1, () -> x.film(0, 5));
        check.due("the tickets of the film", 3, () -> x.film(0, 6));
        check.due("the receipts of the film", 30, () -> x.film(0, 7));
        check.due("the part of the film", 18, () -> x.film(0, 8));
        check.due("the minutes of all shows", 60, () -> x.account(10));
    }

    private void fullDay() {
        CinemaProgramme x = new CinemaProgramme();
        x.addHall(10, 0, 0);
        x.addFilm(240, 0, 1, 3, 0);
        int[] starts = {480, 0, 720, 240};
        int[] shows = {240, 480, 720, 960};
        for (int k = 0; k < 4; k++) {
            int minutes = shows[k];
            x.plan(0, 0, 59, starts[k]);
            check.due("the minutes of shows", minutes, () -> x.used(0, 59, 0));
            check.due("the minutes that are neither", 960 - minutes, () -> x.used(0, 59, 2));
        }
        check.due("no minutes of cleaning", 0, () -> x.used(0, 59, 1));
        check.due("the first start", 0, () -> x.used(0, 59, 3));
        check.due("the greatest end", 960, () -> x.used(0, 59, 4));
        check.fails("no start is left", Check.NO_ELEMENT, () -> x.firstStart(0, 0, 59, 0));
        for (int minute = 0; minute < 960; minute += 137) {
            int asked = minute;
            check.due("a show runs at " + minute, 1, () -> x.at(59, asked, 0));
        }
        check.due("the last minute", 1, () -> x.at(59, 959, 0));
        check.due("behind the last minute", 0, () -> x.at(59, 960, 0));
    }

    private void firstAndLastOfADay() {
        CinemaProgramme x = cinema(10, 3);
        x.plan(0, 0, 0, 500);
        x.plan(0, 0, 0, 200);
        x.plan(0, 0, 0, 800);
        x.plan(0, 0, 1, 100);
        x.plan(1, 0, 0, 895);
        int[] due = {180, 30, 750, 200, 860};
        for (int what = 0; what < due.length; what++) {
            int asked = what;
            check.due("used(0, 0, " + what + ")", due[what], () -> x.used(0, 0, asked));
        }
        x.cancel(1);
        x.cancel(2);
        int[] then = {60, 10, 890, 500, 560};
        for (int what = 0; what < then.length; what++) {
            int asked = what;
            check.due("used(0, 0, " + what + ") then", then[what], () -> x.used(0, 0, asked));
        }
    }

    private void lowestShowThatRuns() {
        CinemaProgramme x = cinema(10, 3);
        x.set(0, 0);
        x.plan(2, 0, 0, 320);
        x.plan(1, 0, 0, 310);
        x.plan(0, 0, 0, 300);
        int[][] due = {{299, 0, 0, 0, -1}, {300, 1, 0, 100, 2}, {309, 1, 0, 100, 2}, {310, 2, 0, 200, 1},
            {320, 3, 0, 300, 0}, {359, 3, 0, 300, 0}, {360, 2, 1, 200, 0}, {370, 1, 1, 100, 0}, {379, 1, 1, 100, 0},
            {380, 0, 1, 0, -1}, {389, 0, 1, 0, -1}, {390, 0, 0, 0, -1}};
        for (int[] row : due) {
            for (int what = 0; what < 4; what++) {
                int asked = what;
                check.due("at(0, " + row[0] + ", " + what + ")", row[1 + what], () -> x.at(0, row[0], asked));
            }
        }
        x.cancel(0);
        check.due("the lowest that is not cancelled", 1, () -> x.at(0, 320, 3));
    }

    private void bestOfEightFilms() {
        CinemaProgramme x = new CinemaProgramme();
        x.addHall(100, 0, 0);
        for (int film = 0; film < 8; film++) {
            x.addFilm(30, 0, 1, 1, 0);
            x.plan(0, film, 0, 60 * film);
        }
        x.sell(7, 5);
        check.due("the last film", 7, () -> x.bestFilm());
        x.sell(3, 5);
        check.due("a lower one with as many", 3, () -> x.bestFilm());
        x.sell(4, 6);
        check.due("one with a ticket more", 4, () -> x.bestFilm());
        x.cancel(4);
        check.due("the one before again", 3, () -> x.bestFilm());
    }

    /** Many shows and few tickets are less than one show with many. */
    private void bestByTickets() {
        CinemaProgramme x = new CinemaProgramme();
        x.addHall(100, 0, 0);
        x.addFilm(30, 0, 1, 1, 0);
        x.addFilm(240, 0, 1, 1, 0);
        x.plan(0, 0, 0, 0);
        x.plan(0, 0, 0, 60);
        x.plan(0, 0, 0, 120);
        x.set(5, 99);
        x.plan(0, 0, 0, 180);
        x.plan(0, 1, 0, 240);
        check.due("no tickets", 0, () -> x.bestFilm());
        x.sell(4, 1);
        check.due("one ticket", 1, () -> x.bestFilm());
        x.sell(0, 1);
        check.due("as many tickets", 0, () -> x.bestFilm());
        x.sell(4, 1);
        check.due("a ticket more", 1, () -> x.bestFilm());
        x.set(5, 1);
        x.sell(3, 1);
        check.due("more receipts, but as many tickets", 0, () -> x.bestFilm());
    }

    private void useOfHalls() {
        CinemaProgramme x = new CinemaProgramme();
        x.addHall(100, 0, 0);
        x.addHall(50, 0, 1);
        x.addFilm(30, 0, 1, 3, 0);
        x.plan(0, 0, 0, 0);
        x.sell(0, 25);
        check.same("use in the larger hall", "0.25", Double.toString(x.use()));
        x.move(0, 1, 0);
        check.same("use in the smaller hall", "0.5", Double.toString(x.use()));
        x.plan(1, 0, 5, 0);
        check.same("use of two shows in one hall", "0.25", Double.toString(x.use()));
        x.advance(1);
        check.same("a show that is over counts", "0.25", Double.toString(x.use()));
        x.cancel(1);
        check.same("a cancelled show does not", "0.5", Double.toString(x.use()));
        x.plan(0, 0, 5, 0);
        check.same("a third", Double.toString(25.0 / 150.0), Double.toString(x.use()));
    }

    private void ticketsGivenBack() {
        CinemaProgramme x = cinema(0, 3);
        x.plan(0, 0, 5, 0);
        x.plan(0, 0, 5, 100);
        x.plan(0, 0, 5, 200);
        x.sell(0, 3);
        x.sell(1, 4);
        check.due("cancel of a show without tickets", 0, () -> x.cancel(2));
        check.due("none is given back", 0, () -> x.account(9));
        check.due("cancel of a show with tickets", 3, () -> x.cancel(0));
        check.due("three are given back", 3, () -> x.account(9));
        check.due("cancel of another one", 4, () -> x.cancel(1));
        check.due("seven are given back", 7, () -> x.account(9));
        x.undo();
        check.due("three after undo", 3, () -> x.account(9));
        check.due("four tickets are sold again", 4, () -> x.account(5));
    }

    private void written(CinemaProgramme x, int hall, int day, String due) {
        check.due("the length of \"" + due + "\"", due.length(), () -> x.write(hall, day));
        check.same("the programme", due, Check.written(x));
        check.fails("the index behind the last", Check.INDEX, () -> x.written(due.length()));
        check.due("the last character", due.charAt(due.length() - 1), () -> x.written(due.length() - 1));
    }

    private void longestAndShortestProgramme() {
        CinemaProgramme x = new CinemaProgramme();
        x.addHall(400, 0, 0);
        x.addHall(1, 0, 1);
        for (int film = 0; film < 8; film++) {
            x.addFilm(30, 0, 1, 3, 0);
        }
        written(x, 0, 0, "none");
        x.plan(0, 7, 0, 930);
        written(x, 0, 0, "930-960 f7 0/400");
        x.sell(0, 400);
        x.plan(0, 0, 0, 0);
        written(x, 0, 0, "0-30 f0 0/400, 930-960 f7 400/400");
        x.plan(1, 1, 0, 7);
        x.sell(2, 1);
        written(x, 1, 0, "7-37 f1 1/1");
        x.cancel(1);
        written(x, 0, 0, "930-960 f7 400/400");
        x.fail(0, 0);
        written(x, 0, 0, "closed: none");
        x.reopen(0);
        written(x, 0, 0, "none");
    }

    private void writtenAnew() {
        CinemaProgramme x = cinema(0, 3);
        check.fails("empty at first", Check.INDEX, () -> x.written(0));
        x.plan(0, 0, 0, 100);
        written(x, 0, 0, "100-160 f0 0/100");
        x.sell(0, 5);
        check.same("in place until it is written anew", "100-160 f0 0/100", Check.written(x));
        check.fails("write of no hall", Check.INDEX, () -> x.write(3, 0));
        check.same("in place after a wrong call", "100-160 f0 0/100", Check.written(x));
        written(x, 0, 0, "100-160 f0 5/100");
        written(x, 0, 1, "none");
    }
}
