/** The empty thing and the full one: halls, films, trailers, shows, lines, the input, the programme, and changes. */
final class EmptyAndFullTest {
    private final Check check = new Check("EmptyAndFullTest");

    private EmptyAndFullTest() {
    }

    public static void main(String[] args) {
        EmptyAndFullTest test = new EmptyAndFullTest();
        test.emptyObject();
        test.withoutHalls();
        test.withoutFilms();
        test.withoutTrailers();
        test.withoutShows();
        test.cancelledShowsOnly();
        test.sixHalls();
        test.eightFilms();
        test.tenTrailers();
        test.thirtyShows();
        test.rulesAheadOfTheFullProgramme();
        test.fullInput();
        test.fullHall();
        test.lastDay();
        test.manyCalls();
        test.check.end();
    }

    /** One hall of 100 seats without cleaning, and one film of 30 minutes with three prints. */
    private static CinemaProgramme cinema() {
        CinemaProgramme x = new CinemaProgramme();
        x.addHall(100, 0, 0);
        x.addFilm(30, 0, 1, 3, 0);
        return x;
    }

    private void emptyObject() {
        CinemaProgramme x = new CinemaProgramme();
        check.fails("undo without changes", Check.STATE, () -> x.undo());
        check.fails("restore without saving", Check.STATE, () -> x.restore());
        check.fails("refusal without one", Check.NO_ELEMENT, () -> x.refusal(false));
        check.fails("its detail without one", Check.NO_ELEMENT, () -> x.refusal(true));
        check.fails("errorPosition without one", Check.NO_ELEMENT, () -> x.errorPosition());
        check.fails("written, which is empty at first", Check.INDEX, () -> x.written(0));
        check.fails("use without shows", Check.ARITHMETIC, () -> (long) x.use());
        check.fails("bestFilm without films", Check.NO_ELEMENT, () -> x.bestFilm());
        check.fails("line without a failure", Check.NO_ELEMENT, () -> x.line(0, 0));
        check.fails("perform of an empty input", Check.ARGUMENT, () -> x.perform());
        check.due("its error position", 0, () -> x.errorPosition());
        check.due("save of an empty programme", 0, () -> x.save());
        check.due("restore of an empty programme", 0, () -> x.restore());
        check.due("today, 0 at first", 0, () -> x.account(11));
    }

    private void withoutHalls() {
        CinemaProgramme x = new CinemaProgramme();
        x.addFilm(30, 0, 1, 3, 0);
        check.fails("hall", Check.INDEX, () -> x.hall(0, 0));
        check.fails("plan", Check.INDEX, () -> x.plan(0, 0, 0, 0));
        check.fails("why", Check.INDEX, () -> x.why(0, 0, 0, 0, false));
        check.fails("firstStart", Check.INDEX, () -> x.firstStart(0, 0, 0, 0));
        check.fails("fail", Check.INDEX, () -> x.fail(0, 0));
        check.fails("reopen", Check.INDEX, () -> x.reopen(0));
        check.fails("used", Check.INDEX, () -> x.used(0, 0, 0));
        check.fails("write", Check.INDEX, () -> x.write(0, 0));
        check.due("reel needs no hall", 0, () -> x.reel(0, 0, true));
        check.due("at needs no hall", 0, () -> x.at(0, 0, 0));
    }

    private void withoutFilms() {
        CinemaProgramme x = new CinemaProgramme();
        x.addHall(1, 0, 0);
        check.fails("film", Check.INDEX, () -> x.film(0, 0));
        check.fails("setShares", Check.INDEX, () -> x.setShares(0, 1, 1, 1));
        check.fails("addTrailer", Check.INDEX, () -> x.addTrailer(0, 1, 0, 1));
        check.fails("share", Check.INDEX, () -> x.share(0, 0));
        check.fails("reel", Check.INDEX, () -> x.reel(0, 0, true));
        check.fails("plan", Check.INDEX, () -> x.plan(0, 0, 0, 0));
        check.fails("why", Check.INDEX, () -> x.why(0, 0, 0, 0, false));
        check.fails("firstStart", Check.INDEX, () -> x.firstStart(0, 0, 0, 0));
        check.fails("bestFilm", Check.NO_ELEMENT, () -> x.bestFilm());
        x.addFilm(30, 0, 1, 1, 0);
        check.due("bestFilm tells a film without shows", 0, () -> x.bestFilm());
    }

    private void withoutTrailers() {
        CinemaProgramme x = cinema();
        check.fails("trailer", Check.INDEX, () -> x.trailer(0, 0));
        check.fails("fits", Check.INDEX, () -> Check.flag(x.fits(0, 0, 0)));
        check.due("the minutes of the best reel", 0, () -> x.reel(0, 0, true));
        check.due("the trailers of the best reel", 0, () -> x.reel(0, 0, false));
        check.due("plan", 0, () -> x.plan(0, 0, 0, 930));
        check.due("the end is that of the film", 960, () -> x.show(0, 4));
        check.due("the reel of the show", 0, () -> x.show(0, 6));
        check.due("its minutes", 0, () -> x.show(0, 11));
    }

    private void withoutShows() {
        CinemaProgramme x = cinema();
        check.fails("show", Check.INDEX, () -> x.show(0, 0));
        check.fails("move", Check.INDEX, () -> x.move(0, 0, 0));
        check.fails("cancel", Check.INDEX, () -> x.cancel(0));
        check.fails("sell", Check.INDEX, () -> x.sell(0, 1));
        check.fails("use", Check.ARITHMETIC, () -> (long) x.use());
        check.due("the start of the first show", -1, () -> x.used(0, 0, 3));
        check.due("the greatest end", -1, () -> x.used(0, 0, 4));
        check.due("the minutes that are neither", 960, () -> x.used(0, 0, 2));
        check.due("the lowest show at a minute", -1, () -> x.at(0, 0, 3));
        check.due("write of \"none\"", 4, () -> x.write(0, 0));
        check.same("what was written", "none", Check.written(x));
        check.due("a failure without shows", 0, () -> x.fail(0, 0));
        check.fails("line then", Check.NO_ELEMENT, () -> x.line(0, 0));
        check.due("write of \"closed: none\"", 12, () -> x.write(0, 0));
        check.same("what was written", "closed: none", Check.written(x));
    }

    private void cancelledShowsOnly() {
        CinemaProgramme x = cinema();
        x.plan(0, 0, 0, 100);
        x.sell(0, 100);
        check.same("use of a hall that is sold out", "1.0", Double.toString(x.use()));
        x.cancel(0);
        check.fails("use", Check.ARITHMETIC, () -> (long) x.use());
        check.due("the start of the first show", -1, () -> x.used(0, 0, 3));
        check.due("the greatest end", -1, () -> x.used(0, 0, 4));
        check.due("the shows of the hall", 0, () -> x.hall(0, 4));
        check.due("the shows of the film", 0, () -> x.film(0, 5));
        check.due("the shows that run", 0, () -> x.at(0, 100, 0));
        check.due("the lowest show that runs", -1, () -> x.at(0, 100, 3));
        check.due("the shows that have been planned", 1, () -> x.account(3));
        check.due("those that are cancelled", 1, () -> x.account(4));
        check.due("bestFilm", 0, () -> x.bestFilm());
        check.due("write", 4, () -> x.write(0, 0));
        check.due("a failure", 0, () -> x.fail(0, 0));
        check.fails("its lines", Check.NO_ELEMENT, () -> x.line(0, 0));
    }

    private void sixHalls() {
        CinemaProgramme x = new CinemaProgramme();
        for (int hall = 0; hall < 6; hall++) {
            int number = hall;
            check.due("hall " + hall, hall, () -> x.addHall(10 + number, number, number % 3));
        }
        check.fails("there are 6 halls", Check.STATE, () -> x.addHall(1, 0, 0));
        check.due("the halls", 6, () -> x.account(0));
        for (int hall = 0; hall < 6; hall++) {
            int number = hall;
            check.due("the seats of hall " + hall, 10 + hall, () -> x.hall(number, 0));
        }
        check.due("undo of the sixth hall", 5, () -> x.undo());
        check.due("a sixth hall again", 5, () -> x.addHall(1, 0, 0));
        check.fails("there are 6 halls again", Check.STATE, () -> x.addHall(1, 0, 0));
    }

    private void eightFilms() {
        CinemaProgramme x = new CinemaProgramme();
        for (int film = 0; film < 8; film++) {
            int number = film;
            check.due("film " + film, film, () -> x.addFilm(30 + number, 0, 1, 1, number));
        }
        check.fails("there are 8 films", Check.STATE, () -> x.addFilm(30, 0, 1, 1, 0));
        check.due("the films", 8, () -> x.account(1));
        for (int film = 0; film < 8; film++) {
            int number = film;
            check.due("the length of film " + film, 30 + film, () -> x.film(number, 0));
        }
        check.due("undo of the eighth film", 7, () -> x.undo());
        check.due("an eighth film again", 7, () -> x.addFilm(30, 0, 1, 1, 0));
        check.fails("there are 8 films again", Check.STATE, () -> x.addFilm(30, 0, 1, 1, 0));
    }

    private void tenTrailers() {
        CinemaProgramme x = cinema();
        for (int trailer = 0; trailer < 10; trailer++) {
            int number = trailer;
            check.due("trailer " + trailer, trailer, () -> x.addTrailer(0, 1 + number % 6, 0, 1 + number));
        }
        check.fails("there are 10 trailers", Check.STATE, () -> x.addTrailer(0, 1, 0, 1));
        check.due("the trailers", 10, () -> x.account(2));
        for (int trailer = 0; trailer < 10; trailer++) {
            int number = trailer;
            check.due("the genres of trailer " + trailer, 1 + trailer, () -> x.trailer(number, 3));
        }
        check.due("undo of the tenth trailer", 7, () -> x.undo());
        check.due("a tenth trailer again", 9, () -> x.addTrailer(0, 1, 0, 1));
        check.fails("there are 10 trailers again", Check.STATE, () -> x.addTrailer(0, 1, 0, 1));
    }

    private void thirtyShows() {
        CinemaProgramme x = cinema();
        for (int show = 0; show < 29; show++) {
            x.plan(0, 0, show, 0);
        }
        check.due("the thirtieth show", 29, () -> x.plan(0, 0, 29, 0));
        check.fails("30 shows have been planned", Check.REFUSED, () -> x.plan(0, 0, 30, 0));
        check.due("the reason", 10, () -> x.refusal(false));
        check.due("the detail", 30, () -> x.refusal(true));
        check.due("the shows", 30, () -> x.account(3));
        check.due("why of a full programme", 0, () -> x.why(0, 0, 30, 0, false));
        check.due("the detail of why", -1, () -> x.why(0, 0, 30, 0, true));
        check.due("firstStart of a full programme", 0, () -> x.firstStart(0, 0, 30, 0));
        check.due("move in a full programme", 9, () -> x.move(29, 0, 9));
        check.due("sell in a full programme", 5, () -> x.sell(29, 5));
        check.due("cancel in a full programme", 5, () -> x.cancel(29));
        check.fails("cancelled shows have been planned, too", Check.REFUSED, () -> x.plan(0, 0, 30, 0));
        check.due("the reason", 10, () -> x.refusal(false));
        Check.type(x, "plan 0 0 30 0");
        check.fails("a text in a full programme", Check.REFUSED, () -> x.perform());
        check.due("the reason", 10, () -> x.refusal(false));
        check.due("the detail", 30, () -> x.refusal(true));
        x.undo();
        x.undo();
        x.undo();
        x.undo();
        check.due("a thirtieth show after undo", 29, () -> x.plan(0, 0, 30, 0));
        check.due("its tickets", 0, () -> x.show(29, 5));
    }

    /** The reasons from 1 to 9 come ahead of the reason 10. */
    private void rulesAheadOfTheFullProgramme() {
        CinemaProgramme x = new CinemaProgramme();
        x.addHall(10, 40, 0);
        x.addHall(10, 40, 0);
        x.addHall(10, 40, 1);
        x.addFilm(30, 1, 1, 1, 0);
        x.addFilm(30, 0, 1, 1, 40);
        x.addFilm(30, 0, 1, 1, 0);
        x.advance(1);
        for (int show = 0; show < 30; show++) {
            x.plan(0, 0, 1 + show, 100);
        }
        x.fail(1, 50);
        x.setLimit(9, 0);
        x.set(1, 1);
        refused(x, 1, 1, new int[] {0, 0, 0, 100});
        refused(x, 2, 1, new int[] {1, 0, 50, 100});
        refused(x, 3, 40, new int[] {0, 1, 39, 300});
        refused(x, 4, 0, new int[] {0, 0, 35, 540});
        refused(x, 5, 961, new int[] {0, 0, 35, 931});
        refused(x, 6, 4, new int[] {0, 0, 5, 100});
        refused(x, 7, 100, new int[] {1, 0, 5, 100});
        refused(x, 8, 4, new int[] {1, 2, 5, 100});
        refused(x, 9, 130, new int[] {2, 2, 5, 100});
        refused(x, 10, 30, new int[] {2, 2, 5, 300});
    }

    private void refused(CinemaProgramme x, int reason, int detail, int[] place) {
        check.fails("plan ahead of reason 10", Check.REFUSED, () -> x.plan(place[0], place[1], place[2], place[3]));
        check.due("the reason " + reason + " ahead of 10", reason, () -> x.refusal(false));
        check.due("the detail of reason " + reason, detail, () -> x.refusal(true));
    }

    private void fullInput() {
        CinemaProgramme x = new CinemaProgramme();
        String text = "days 1;days 1;days 1;days 1;days 1;days 1;days 1;days 1";
        Check.type(x, text);
        Check.type(x, ";drp");
        check.due("the sixtieth character", 60, () -> x.append('o'));
        check.fails("the input holds 60 characters", Check.STATE, () -> x.append('o'));
        check.fails("the input still holds 60 characters", Check.STATE, () -> x.append(' '));
        check.fails("perform of 60 characters", Check.ARGUMENT, () -> x.perform());
        check.due("the error position", 58, () -> x.errorPosition());
        Check.type(x, text);
        Check.type(x, ";drop");
        check.fails("a ninth command begins", Check.ARGUMENT, () -> x.perform());
        check.due("the error position is the length", 60, () -> x.errorPosition());
        Check.type(x, text);
        check.due("perform of eight commands", 8, () -> x.perform());
        check.due("today", 8, () -> x.account(11));
        check.due("the input is empty", 1, () -> x.append('a'));
    }

    private void fullHall() {
        CinemaProgramme x = cinema();
        x.plan(0, 0, 0, 0);
        check.fails("a ticket more than there are seats", Check.REFUSED, () -> x.sell(0, 101));
        check.due("the reason", 12, () -> x.refusal(false));
        check.due("the seats left", 100, () -> x.refusal(true));
        check.due("as many tickets as there are seats", 100, () -> x.sell(0, 100));
        check.fails("a ticket for a full hall", Check.REFUSED, () -> x.sell(0, 1));
        check.due("no seats left", 0, () -> x.refusal(true));
        check.due("its tickets", 100, () -> x.show(0, 5));
        x.undo();
        check.due("all but one", 99, () -> x.sell(0, 99));
        check.fails("two tickets for one seat", Check.REFUSED, () -> x.sell(0, 2));
        check.due("one seat left", 1, () -> x.refusal(true));
        check.due("a ticket for the last seat", 100, () -> x.sell(0, 1));
        check.same("use", "1.0", Double.toString(x.use()));
        check.due("cancel", 100, () -> x.cancel(0));
        check.fails("sell for a cancelled show", Check.STATE, () -> x.sell(0, 1));
    }

    private void lastDay() {
        CinemaProgramme x = cinema();
        x.plan(0, 0, 59, 0);
        x.plan(0, 0, 58, 0);
        x.advance(30);
        x.advance(29);
        check.fails("no day follows", Check.ARGUMENT, () -> x.advance(1));
        check.due("today", 59, () -> x.account(11));
        check.due("a show of the last day is not over", 0, () -> x.show(0, 8));
        check.due("one of the day before is", 2, () -> x.show(1, 8));
        check.due("a sale on the last day", 1, () -> x.sell(0, 1));
        check.due("plan on the last day", 2, () -> x.plan(0, 0, 59, 930));
        check.due("fail on the last day", 2, () -> x.fail(0, 59));
        check.due("the cancelled shows", 2, () -> x.account(4));
        check.due("why on a day before", 1, () -> x.why(0, 0, 58, 500, false));
        check.due("its detail is today", 59, () -> x.why(0, 0, 58, 500, true));
    }

    /** An object is used for at most 512 calls. */
    private void manyCalls() {
        CinemaProgramme x = cinema();
        for (int k = 2; k < 511; k++) {
            x.set(5, 1 + k % 99);
        }
        check.due("the 512th call", 1 + 510 % 99, () -> x.setting(5));
    }
}
