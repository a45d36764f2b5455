/** Promises 22 to 24: halls that fail, places for their shows, lines, and halls that are opened again. */
final class FailureTest {
    private final Check check = new Check("FailureTest");

    private FailureTest() {
    }

    public static void main(String[] args) {
        FailureTest test = new FailureTest();
        test.wrongCalls();
        test.noShows();
        test.leastDifference();
        test.earlierStartThen();
        test.lowestHallThen();
        test.seats();
        test.shift();
        test.daysAndStarts();
        test.takenOutAtOnce();
        test.amongThosePlaced();
        test.rulesForPlaces();
        test.keepsReelPriceTickets();
        test.edgesOfTheDay();
        test.allShowsOfOneDay();
        test.reopening();
        test.check.end();
    }

    /** Halls without cleaning, each with an exit of its own as far as there are any; one film of 100 minutes. */
    private static CinemaProgramme cinema(int... seats) {
        CinemaProgramme x = new CinemaProgramme();
        for (int hall = 0; hall < seats.length; hall++) {
            x.addHall(seats[hall], 0, hall % 3);
        }
        x.addFilm(100, 0, 1, 3, 0);
        x.set(0, 0);
        return x;
    }

    private void line(CinemaProgramme x, int index, int... due) {
        for (int what = 0; what < due.length; what++) {
            int asked = what;
            check.due("line(" + index + ", " + what + ")", due[what], () -> x.line(index, asked));
        }
    }

    private void wrongCalls() {
        CinemaProgramme x = cinema(10, 10);
        x.advance(5);
        check.fails("fail(2, 60)", Check.INDEX, () -> x.fail(2, 60));
        check.fails("fail(-1, 5)", Check.INDEX, () -> x.fail(-1, 5));
        check.fails("fail(0, 4)", Check.ARGUMENT, () -> x.fail(0, 4));
        check.fails("fail(0, 60)", Check.ARGUMENT, () -> x.fail(0, 60));
        check.fails("fail(0, -1)", Check.ARGUMENT, () -> x.fail(0, -1));
        check.due("fail(0, 5)", 0, () -> x.fail(0, 5));
        check.due("fail(1, 59)", 0, () -> x.fail(1, 59));
        check.fails("fail again", Check.STATE, () -> x.fail(1, 59));
        check.fails("fail again from another day on", Check.STATE, () -> x.fail(0, 8));
        check.fails("fail again, before today", Check.ARGUMENT, () -> x.fail(0, 4));
        check.due("hall(0, 3)", 5, () -> x.hall(0, 3));
        check.due("hall(1, 3)", 59, () -> x.hall(1, 3));
    }

    private void noShows() {
        CinemaProgramme x = cinema(10, 10);
        check.fails("line without a failure", Check.NO_ELEMENT, () -> x.line(0, 5));
        x.plan(0, 0, 3, 0);
        x.plan(0, 0, 3, 200);
        x.cancel(1);
        check.due("a failure that moves a show", 0, () -> x.fail(0, 3));
        line(x, 0, 0, 0, 1, 0, 0);
        check.fails("line(1, 0)", Check.NO_ELEMENT, () -> x.line(1, 0));
        check.fails("line(-1, 0)", Check.NO_ELEMENT, () -> x.line(-1, 0));
        check.fails("line(1, 5)", Check.NO_ELEMENT, () -> x.line(1, 5));
        check.fails("line(0, 5)", Check.ARGUMENT, () -> x.line(0, 5));
        check.fails("line(0, -1)", Check.ARGUMENT, () -> x.line(0, -1));
        check.due("a failure after its show", 0, () -> x.fail(1, 4));
        check.fails("line of a failure without shows", Check.NO_ELEMENT, () -> x.line(0, 0));
        check.due("the show stays", 1, () -> x.show(0, 0));
        check.fails("no reason is kept by a failure", Check.NO_ELEMENT, () -> x.refusal(false));
    }

    private void leastDifference() {
        CinemaProgramme x = cinema(10, 10, 10);
        x.plan(0, 0, 0, 300);
        x.plan(1, 0, 0, 260);
        x.plan(2, 0, 0, 360);
        check.due("fail", 0, () -> x.fail(0, 0));
        line(x, 0, 0, 300, 2, 260, 0);
        check.due("its hall", 2, () -> x.show(0, 0));
        check.due("its start", 260, () -> x.show(0, 3));
        check.due("its end", 360, () -> x.show(0, 4));
    }

    private void earlierStartThen() {
        CinemaProgramme x = cinema(10, 10, 10);
        x.plan(0, 0, 0, 300);
        x.plan(1, 0, 0, 220);
        x.plan(2, 0, 0, 380);
        check.due("fail", 0, () -> x.fail(0, 0));
        line(x, 0, 0, 300, 2, 280, 0);
    }

    private void lowestHallThen() {
        CinemaProgramme x = cinema(10, 10, 10, 10);
        x.plan(1, 0, 0, 300);
        check.due("fail", 0, () -> x.fail(1, 0));
        line(x, 0, 0, 300, 0, 300, 0);
        x.plan(3, 0, 1, 300);
        x.plan(0, 0, 1, 300);
        check.due("fail", 0, () -> x.fail(3, 1));
        line(x, 0, 1, 300, 2, 300, 0);
    }

    private void seats() {
        CinemaProgramme x = cinema(100, 50, 51);
        x.plan(0, 0, 0, 300);
        x.sell(0, 51);
        check.due("fail", 0, () -> x.fail(0, 0));
        line(x, 0, 0, 300, 2, 300, 51);
        check.due("fail again", 1, () -> x.fail(2, 0));
        line(x, 0, 0, 300, -1, -1, 51);
        check.due("the tickets given back", 51, () -> x.account(9));
        check.due("the cancelled shows", 1, () -> x.account(4));
        check.due("its tickets", 0, () -> x.show(0, 5));
        check.due("its state", 1, () -> x.show(0, 8));
        check.due("its hall", 2, () -> x.show(0, 0));
    }

    private void shift() {
        CinemaProgramme x = cinema(10, 10);
        x.plan(0, 0, 0, 300);
        x.plan(1, 0, 0, 260);
        x.fail(0, 0);
        line(x, 0, 0, 300, 1, 360, 0);
        x.undo();
        x.set(4, 59);
        check.due("a shift that is a minute too short", 1, () -> x.fail(0, 0));
        x.undo();
        x.set(4, 0);
        check.due("a shift of 0", 1, () -> x.fail(0, 0));
        x.undo();
        x.cancel(1);
        check.due("a shift of 0 and an empty hall", 0, () -> x.fail(0, 0));
        line(x, 0, 0, 300, 1, 300, 0);
    }

    private void daysAndStarts() {
        CinemaProgramme x = cinema(10, 10);
        x.plan(0, 0, 5, 100);
        x.plan(0, 0, 2, 500);
        x.plan(0, 0, 2, 200);
        x.plan(0, 0, 1, 0);
        x.plan(0, 0, 59, 0);
        x.plan(1, 0, 2, 0);
        check.due("fail", 0, () -> x.fail(0, 2));
        line(x, 0, 2, 200, 1, 200, 0);
        line(x, 1, 1, 500, 1, 500, 0);
        line(x, 2, 0, 100, 1, 100, 0);
        line(x, 3, 4, 0, 1, 0, 0);
        check.fails("line(4, 0)", Check.NO_ELEMENT, () -> x.line(4, 0));
        check.due("the show of the day before", 0, () -> x.show(3, 0));
    }

    private void takenOutAtOnce() {
        CinemaProgramme x = new CinemaProgramme();
        x.addHall(10, 0, 0);
        x.addHall(10, 0, 0);
        x.addFilm(100, 0, 1, 1, 0);
        x.set(2, 0);
        x.plan(0, 0, 0, 100);
        x.plan(0, 0, 0, 200);
        x.plan(1, 0, 0, 300);
        x.plan(0, 0, 0, 400);
        x.set(2, 40);
        check.due("the print of a later show is free by then", 1, () -> x.fail(0, 0));
        line(x, 0, 0, 100, 1, 100, 0);
        line(x, 1, 1, 200, -1, -1, 0);
        line(x, 2, 3, 400, 1, 440, 0);
    }

    private void amongThosePlaced() {
        CinemaProgramme x = cinema(10, 10);
        x.plan(0, 0, 0, 100);
        x.plan(0, 0, 0, 200);
        x.plan(1, 0, 0, 60);
        check.due("fail", 0, () -> x.fail(0, 0));
        line(x, 0, 0, 100, 1, 160, 0);
        line(x, 1, 1, 200, 1, 260, 0);
        CinemaProgramme y = cinema(10, 10);
        y.plan(0, 0, 0, 100);
        y.plan(0, 0, 0, 200);
        y.plan(0, 0, 0, 300);
        y.plan(1, 0, 0, 150);
        check.due("each has a place behind the one ahead of it", 0, () -> y.fail(0, 0));
        line(y, 0, 0, 100, 1, 50, 0);
        line(y, 1, 1, 200, 1, 250, 0);
        line(y, 2, 2, 300, 1, 350, 0);
    }

    private void rulesForPlaces() {
        CinemaProgramme x = new CinemaProgramme();
        x.addHall(10, 10, 0);
        x.addHall(10, 10, 0);
        x.addHall(10, 10, 1);
        x.addFilm(100, 1, 1, 1, 0);
        x.addFilm(100, 0, 1, 1, 0);
        x.plan(0, 0, 0, 310);
        x.fail(2, 0);
        x.setLimit(5, 0);
        check.due("a limit counts for a place", 0, () -> x.fail(0, 0));
        line(x, 0, 0, 310, 1, 299, 0);
        x.undo();
        x.plan(1, 1, 0, 190);
        check.due("a place far behind another show", 0, () -> x.fail(0, 0));
        line(x, 0, 0, 310, 1, 360, 0);
        x.undo();
        x.set(4, 49);
        check.due("a hall that is closed is no place", 1, () -> x.fail(0, 0));
        x.undo();
        x.reopen(2);
        check.due("a hall that is open again is one", 0, () -> x.fail(0, 0));
        line(x, 0, 0, 310, 2, 299, 0);
    }

    private void keepsReelPriceTickets() {
        CinemaProgramme x = cinema(100, 80);
        x.addFilm(100, 0, 1, 1, 50);
        x.addTrailer(1, 6, 0, 1);
        x.plan(0, 0, 7, 200);
        x.sell(0, 25);
        x.set(3, 0);
        x.set(5, 99);
        check.due("fail", 0, () -> x.fail(0, 7));
        int[] due = {1, 0, 7, 200, 306, 25, 1, 10, 0, 250, 125, 6};
        for (int what = 0; what < due.length; what++) {
            int asked = what;
            check.due("show(0, " + what + ") after a failure", due[what], () -> x.show(0, asked));
        }
        check.due("no tickets were given back", 0, () -> x.account(9));
    }

    private void edgesOfTheDay() {
        CinemaProgramme x = cinema(10, 10);
        x.addFilm(30, 0, 1, 3, 0);
        x.plan(0, 0, 0, 10);
        x.plan(1, 1, 0, 20);
        check.due("no start ahead of the day", 0, () -> x.fail(0, 0));
        line(x, 0, 0, 10, 1, 50, 0);
        CinemaProgramme y = cinema(10, 10);
        y.addFilm(30, 0, 1, 3, 0);
        y.plan(0, 0, 0, 850);
        y.plan(1, 1, 0, 890);
        check.due("no end behind the day", 0, () -> y.fail(0, 0));
        line(y, 0, 0, 850, 1, 790, 0);
        CinemaProgramme z = cinema(10, 10);
        z.addFilm(30, 0, 1, 3, 0);
        z.plan(0, 1, 0, 930);
        z.plan(1, 0, 0, 860);
        z.set(4, 120);
        check.due("a start ahead, as 960 is no start", 0, () -> z.fail(0, 0));
        line(z, 0, 0, 930, 1, 830, 0);
    }

    private void allShowsOfOneDay() {
        CinemaProgramme x = cinema(10, 10);
        x.addFilm(30, 0, 1, 1, 0);
        x.set(2, 0);
        for (int show = 0; show < 30; show++) {
            x.plan(0, 1, 59, 30 * (29 - show));
        }
        check.due("fail", 0, () -> x.fail(0, 0));
        for (int line = 0; line < 30; line++) {
            line(x, line, 29 - line, 30 * line, 1, 30 * line, 0);
        }
    }

    private void reopening() {
        CinemaProgramme x = cinema(10, 5);
        x.plan(0, 0, 3, 100);
        x.sell(0, 6);
        check.fails("reopen(2)", Check.INDEX, () -> x.reopen(2));
        check.fails("reopen(-1)", Check.INDEX, () -> x.reopen(-1));
        check.fails("reopen an open hall", Check.STATE, () -> x.reopen(0));
        x.fail(0, 2);
        check.due("reopen", 2, () -> x.reopen(0));
        check.due("hall(0, 3)", -1, () -> x.hall(0, 3));
        check.due("its show is not brought back", 1, () -> x.show(0, 8));
        check.due("its line stays", 6, () -> x.line(0, 4));
        check.fails("reopen again", Check.STATE, () -> x.reopen(0));
        check.due("a new show in it", 1, () -> x.plan(0, 0, 3, 100));
        check.due("it may fail again", 0, () -> x.fail(0, 3));
        check.due("its show moved", 1, () -> x.show(1, 0));
    }
}
