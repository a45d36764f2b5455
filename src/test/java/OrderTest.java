/** If several exceptions apply, the one that is documented first is thrown; and which reason comes first. */
final class OrderTest {
    private static final int WRONG = 9999;

    private final Check check = new Check("OrderTest");

    private OrderTest() {
    }

    public static void main(String[] args) {
        OrderTest test = new OrderTest();
        test.additions();
        test.settings();
        test.questions();
        test.plan();
        test.move();
        test.cancelAndSell();
        test.failures();
        test.texts();
        test.rules();
        test.check.end();
    }

    /**
     * Two halls, of 100 and of 20 seats, both closed from day 40 on; film 0 with one print, film 1 released on day 20.
     * Show 0 is over, 1 is cancelled, 2 has 30 tickets; 3 is without tickets. Today is 2.
     */
    private static CinemaProgramme cinema() {
        CinemaProgramme x = new CinemaProgramme();
        x.addHall(100, 0, 0);
        x.addHall(20, 0, 1);
        x.addFilm(60, 1, 1, 1, 0);
        x.addFilm(60, 0, 1, 1, 20);
        x.addTrailer(1, 5, 3, 1);
        x.plan(0, 0, 1, 100);
        x.plan(0, 0, 3, 100);
        x.plan(0, 0, 3, 300);
        x.plan(1, 0, 3, 500);
        x.sell(2, 30);
        x.cancel(1);
        x.fail(0, 40);
        x.fail(1, 40);
        x.advance(2);
        return x;
    }

    private void first(String what, Class<? extends RuntimeException> due, Check.CinemaCall call) {
        CinemaProgramme x = cinema();
        check.fails(what, due, () -> call.answer(x));
        check.fails("no reason is kept by " + what, Check.NO_ELEMENT, () -> x.refusal(false));
    }

    private void additions() {
        CinemaProgramme x = new CinemaProgramme();
        for (int hall = 0; hall < 6; hall++) {
            x.addHall(1, 0, 0);
        }
        check.fails("addHall: seats ahead of 6 halls", Check.ARGUMENT, () -> x.addHall(0, 0, 0));
        check.fails("addHall: cleaning ahead of 6 halls", Check.ARGUMENT, () -> x.addHall(1, 41, 0));
        check.fails("addHall: exit ahead of 6 halls", Check.ARGUMENT, () -> x.addHall(1, 0, 3));
        for (int film = 0; film < 8; film++) {
            x.addFilm(30, 0, 1, 1, 0);
        }
        check.fails("addFilm: length ahead of 8 films", Check.ARGUMENT, () -> x.addFilm(29, 0, 1, 1, 0));
        check.fails("addFilm: rating ahead of 8 films", Check.ARGUMENT, () -> x.addFilm(30, 4, 1, 1, 0));
        check.fails("addFilm: genres ahead of 8 films", Check.ARGUMENT, () -> x.addFilm(30, 0, 0, 1, 0));
        check.fails("addFilm: prints ahead of 8 films", Check.ARGUMENT, () -> x.addFilm(30, 0, 1, 0, 0));
        check.fails("addFilm: release ahead of 8 films", Check.ARGUMENT, () -> x.addFilm(30, 0, 1, 1, 60));
        check.fails("addTrailer: film ahead of length", Check.INDEX, () -> x.addTrailer(8, 0, 0, 1));
        check.fails("addTrailer: film ahead of rating", Check.INDEX, () -> x.addTrailer(-1, 1, 4, 1));
        check.fails("addTrailer: film ahead of genres", Check.INDEX, () -> x.addTrailer(8, 1, 0, 64));
        for (int trailer = 0; trailer < 10; trailer++) {
            x.addTrailer(0, 1, 0, 1);
        }
        check.fails("addTrailer: film ahead of 10 trailers", Check.INDEX, () -> x.addTrailer(8, 1, 0, 1));
        check.fails("addTrailer: film ahead of all", Check.INDEX, () -> x.addTrailer(-1, 7, 4, 0));
        check.fails("addTrailer: length ahead of 10 trailers", Check.ARGUMENT, () -> x.addTrailer(0, 7, 0, 1));
        check.fails("addTrailer: rating ahead of 10 trailers", Check.ARGUMENT, () -> x.addTrailer(0, 1, -1, 1));
        check.fails("addTrailer: genres ahead of 10 trailers", Check.ARGUMENT, () -> x.addTrailer(0, 1, 0, 0));
    }

    private void settings() {
        first("setShares: film ahead of first", Check.INDEX, x -> x.setShares(2, 101, 0, 0));
        first("setShares: film ahead of step", Check.INDEX, x -> x.setShares(-1, 50, 51, 0));
        first("setShares: film ahead of least", Check.INDEX, x -> x.setShares(2, 50, 0, 51));
        first("set: setting ahead of value", Check.INDEX, x -> x.set(6, -1));
        first("set: setting ahead of value", Check.INDEX, x -> x.set(-1, WRONG));
        first("setLimit: hour ahead of rating", Check.INDEX, x -> x.setLimit(16, 4));
        first("setLimit: hour ahead of rating", Check.INDEX, x -> x.setLimit(-1, -1));
    }

    private void questions() {
        first("hall: hall ahead of what", Check.INDEX, x -> x.hall(2, 7));
        first("film: film ahead of what", Check.INDEX, x -> x.film(2, 12));
        first("trailer: trailer ahead of what", Check.INDEX, x -> x.trailer(1, 4));
        first("show: show ahead of what", Check.INDEX, x -> x.show(4, 12));
        first("share: film ahead of day", Check.INDEX, x -> x.share(2, 60));
        first("share: day ahead of release", Check.ARGUMENT, x -> x.share(1, -1));
        first("share: film ahead of all", Check.INDEX, x -> x.share(2, -1));
        first("fits: trailer ahead of day", Check.INDEX, x -> Check.flag(x.fits(1, 0, 60)));
        first("fits: film ahead of day", Check.INDEX, x -> Check.flag(x.fits(0, 2, -1)));
        first("reel: film ahead of day", Check.INDEX, x -> x.reel(2, 60, true));
        first("used: hall ahead of day", Check.INDEX, x -> x.used(2, 60, 0));
        first("used: hall ahead of what", Check.INDEX, x -> x.used(-1, 0, 5));
        first("write: hall ahead of day", Check.INDEX, x -> x.write(2, 60));
        first("why: hall ahead of day", Check.INDEX, x -> x.why(2, 0, 60, 0, true));
        first("why: film ahead of start", Check.INDEX, x -> x.why(0, 2, 0, 960, false));
        first("firstStart: hall ahead of day", Check.INDEX, x -> x.firstStart(2, 0, 60, 0));
        first("firstStart: film ahead of minute", Check.INDEX, x -> x.firstStart(0, 2, 3, 960));
        first("firstStart: day ahead of no place", Check.ARGUMENT, x -> x.firstStart(0, 1, -1, 0));
        first("firstStart: minute ahead of no place", Check.ARGUMENT, x -> x.firstStart(0, 1, 10, 960));
        first("firstStart: hall ahead of no place", Check.INDEX, x -> x.firstStart(2, 1, 10, 959));
        first("line: index ahead of what", Check.NO_ELEMENT, x -> x.line(0, 5));
        first("line: index ahead of what", Check.NO_ELEMENT, x -> x.line(-1, -1));
    }

    private void plan() {
        first("plan: hall ahead of day", Check.INDEX, x -> x.plan(2, 0, 60, 0));
        first("plan: hall ahead of start", Check.INDEX, x -> x.plan(-1, 0, 3, 960));
        first("plan: film ahead of day", Check.INDEX, x -> x.plan(0, 2, -1, 0));
        first("plan: film ahead of start", Check.INDEX, x -> x.plan(0, -1, 3, -1));
        first("plan: hall ahead of a refusal", Check.INDEX, x -> x.plan(2, 0, 0, 0));
        first("plan: film ahead of a refusal", Check.INDEX, x -> x.plan(0, 2, 0, 0));
        first("plan: day ahead of the rule for days", Check.ARGUMENT, x -> x.plan(0, 0, -1, 0));
        first("plan: day ahead of the rule for closed halls", Check.ARGUMENT, x -> x.plan(0, 0, 60, 0));
        first("plan: start ahead of the rule for days", Check.ARGUMENT, x -> x.plan(0, 0, 1, -1));
        first("plan: start ahead of the rule for ends", Check.ARGUMENT, x -> x.plan(0, 0, 3, 960));
    }

    private void move() {
        first("move: show ahead of start", Check.INDEX, x -> x.move(4, 0, 960));
        first("move: hall ahead of start", Check.INDEX, x -> x.move(2, 2, -1));
        first("move: hall ahead of a cancelled show", Check.INDEX, x -> x.move(1, 2, 0));
        first("move: hall ahead of a show that is over", Check.INDEX, x -> x.move(0, -1, 0));
        first("move: show ahead of a refusal", Check.INDEX, x -> x.move(-1, 0, 959));
        first("move: start ahead of a cancelled show", Check.ARGUMENT, x -> x.move(1, 0, 960));
        first("move: start ahead of a show that is over", Check.ARGUMENT, x -> x.move(0, 0, -1));
        first("move: start ahead of too few seats", Check.ARGUMENT, x -> x.move(2, 1, 960));
        first("move: a cancelled show ahead of a broken rule", Check.STATE, x -> x.move(1, 0, 959));
        first("move: a show that is over ahead of a broken rule", Check.STATE, x -> x.move(0, 0, 100));
        CinemaProgramme x = new CinemaProgramme();
        x.addHall(100, 0, 0);
        x.addHall(20, 0, 1);
        x.addFilm(60, 0, 1, 1, 0);
        x.plan(0, 0, 1, 100);
        x.sell(0, 30);
        x.advance(2);
        check.fails("move: a show that is over ahead of too few seats", Check.STATE, () -> x.move(0, 1, 100));
        check.fails("no reason is kept", Check.NO_ELEMENT, () -> x.refusal(false));
        x.undo();
        check.fails("move: too few seats ahead of rule 5", Check.REFUSED, () -> x.move(0, 1, 959));
        check.due("the reason 11 is ahead of 5", 11, () -> x.refusal(false));
        check.due("its detail", 20, () -> x.refusal(true));
        x.fail(1, 0);
        check.fails("move: too few seats ahead of rule 2", Check.REFUSED, () -> x.move(0, 1, 100));
        check.due("the reason 11 is ahead of 2", 11, () -> x.refusal(false));
    }

    private void cancelAndSell() {
        first("cancel: no such show", Check.INDEX, x -> x.cancel(4));
        first("cancel: a cancelled show that is over, too", Check.STATE, x -> {
            x.advance(5);
            return x.cancel(1);
        });
        first("sell: show ahead of tickets", Check.INDEX, x -> x.sell(4, 0));
        first("sell: show ahead of tickets", Check.INDEX, x -> x.sell(-1, 401));
        first("sell: tickets ahead of a cancelled show", Check.ARGUMENT, x -> x.sell(1, 0));
        first("sell: tickets ahead of a show that is over", Check.ARGUMENT, x -> x.sell(0, 401));
        first("sell: tickets ahead of too few seats", Check.ARGUMENT, x -> x.sell(3, 401));
        first("sell: a cancelled show ahead of too few seats", Check.STATE, x -> x.sell(1, 400));
        first("sell: a show that is over ahead of too few seats", Check.STATE, x -> x.sell(0, 101));
    }

    private void failures() {
        first("fail: hall ahead of day", Check.INDEX, x -> x.fail(2, 60));
        first("fail: hall ahead of a day before today", Check.INDEX, x -> x.fail(-1, 1));
        first("fail: day ahead of a closed hall", Check.ARGUMENT, x -> x.fail(0, 60));
        first("fail: a day before today ahead of a closed hall", Check.ARGUMENT, x -> x.fail(0, 1));
        first("fail: a day below 0 ahead of a closed hall", Check.ARGUMENT, x -> x.fail(1, -1));
        first("fail: a closed hall, on today", Check.STATE, x -> x.fail(0, 2));
        first("fail: a closed hall, on the day from which it is closed", Check.STATE, x -> x.fail(0, 40));
        first("fail: a closed hall, on the last day", Check.STATE, x -> x.fail(1, 59));
        CinemaProgramme full = new CinemaProgramme();
        for (int k = 0; k < 60; k++) {
            full.append('a');
        }
        check.fails("append: code ahead of 60 characters", Check.ARGUMENT, () -> full.append((char) 127));
        check.fails("append: code ahead of 60 characters", Check.ARGUMENT, () -> full.append((char) 31));
    }

    /** A text that is none is told ahead of what its commands would throw. */
    private void texts() {
        String[] texts = {"drop 99;", "sell 2 71;x", "plan 0 0 3 320;plan 0 0 3 3200", "days 99 "};
        for (String text : texts) {
            first("perform: no text ahead of its calls: " + text, Check.ARGUMENT, x -> {
                Check.type(x, text);
                return x.perform();
            });
        }
        CinemaProgramme x = cinema();
        Check.type(x, "sell 2 71;drop 99;plan 0 0 3 320");
        check.fails("perform: the first wrong command", Check.REFUSED, () -> x.perform());
        check.due("the first wrong command was refused", 12, () -> x.refusal(false));
        Check.type(x, "drop 99;plan 0 0 3 320");
        check.fails("perform: the first wrong command", Check.REFUSED, () -> x.perform());
        check.due("the first wrong command was not refused", 12, () -> x.refusal(false));
    }

    /** Each rule together with the next one that can be broken with it; then this next one without it. */
    private void rules() {
        CinemaProgramme x = new CinemaProgramme();
        x.addHall(10, 40, 0);
        x.addHall(10, 40, 0);
        x.addFilm(100, 2, 1, 1, 30);
        x.addFilm(100, 2, 1, 1, 0);
        x.set(1, 1);
        x.plan(0, 0, 35, 500);
        x.advance(10);
        x.fail(1, 10);
        x.setLimit(0, 1);
        x.setLimit(15, 1);
        broken(x, 1, 10, 1, 0, 9, 0);
        broken(x, 2, 1, 1, 0, 10, 0);
        x.reopen(1);
        broken(x, 3, 30, 1, 0, 29, 900);
        broken(x, 4, 1, 1, 0, 30, 900);
        x.setLimit(15, 2);
        broken(x, 5, 1000, 1, 0, 30, 900);
        broken(x, 6, 0, 0, 0, 35, 500);
        broken(x, 7, 500, 1, 0, 35, 500);
        broken(x, 8, 0, 1, 1, 35, 500);
        broken(x, 8, 0, 1, 1, 35, 509);
        broken(x, 9, 610, 1, 1, 35, 510);
        broken(x, 0, -1, 1, 1, 35, 540);
    }

    private void broken(CinemaProgramme x, int rule, int detail, int hall, int film, int day, int start) {
        check.due("the first broken rule is " + rule, rule, () -> x.why(hall, film, day, start, false));
        check.due("the detail of rule " + rule, detail, () -> x.why(hall, film, day, start, true));
        if (rule != 0) {
            check.fails("a plan that breaks rule " + rule, Check.REFUSED, () -> x.plan(hall, film, day, start));
            check.due("the reason is rule " + rule, rule, () -> x.refusal(false));
            check.due("the detail of the reason " + rule, detail, () -> x.refusal(true));
        }
    }
}
