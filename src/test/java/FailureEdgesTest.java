/** The paragraphs on failures and refusals, and the promises 16, 18 and 22 to 24, at their edges. */
final class FailureEdgesTest {
    private final Check check = new Check("FailureEdgesTest");

    private FailureEdgesTest() {
    }

    public static void main(String[] args) {
        FailureEdgesTest test = new FailureEdgesTest();
        test.fromThisDayOn();
        test.cancelledAndMovedAway();
        test.ascendingDaysThenStarts();
        test.takenOutAtOnce();
        test.amongShowsInTheirPlaces();
        test.filmAndLengthOfEachShow();
        test.anotherHallOnly();
        test.enoughSeats();
        test.seatsForEachShow();
        test.atMostTheShift();
        test.leastDifferenceFirst();
        test.earlierStartThen();
        test.lowestHallThen();
        test.eachRuleForAPlace();
        test.noPlaceAtAll();
        test.linesOfTheLatestFailure();
        test.failAgain();
        test.reasonsElevenAndTwelve();
        test.latestReason();
        test.check.end();
    }

    /** Halls without cleaning, with exits of their own as far as there are any; film 0 of 100 minutes; no gap. */
    private static CinemaProgramme cinema(int... seats) {
        CinemaProgramme x = new CinemaProgramme();
        for (int hall = 0; hall < seats.length; hall++) {
            x.addHall(seats[hall], 0, hall % 3);
        }
        x.addFilm(100, 1, 1, 3, 0);
        x.set(0, 0);
        return x;
    }

    private void line(CinemaProgramme x, int index, int... due) {
        for (int what = 0; what < due.length; what++) {
            int asked = what;
            check.due("line(" + index + ", " + what + ")", due[what], () -> x.line(index, asked));
        }
        if (due[2] != -1) {
            check.due("the hall of the show of line " + index, due[2], () -> x.show(due[0], 0));
            check.due("the start of the show of line " + index, due[3], () -> x.show(due[0], 3));
        }
        check.due("the state of the show of line " + index, due[2] == -1 ? 1 : 0, () -> x.show(due[0], 8));
    }

    private void lines(CinemaProgramme x, int count) {
        if (count > 0) {
            check.answers("line(" + (count - 1) + ", 0)", () -> x.line(count - 1, 0));
        }
        check.fails("line(" + count + ", 0)", Check.NO_ELEMENT, () -> x.line(count, 0));
    }

    private void fromThisDayOn() {
        CinemaProgramme x = cinema(10, 10);
        x.plan(0, 0, 4, 0);
        x.plan(0, 0, 5, 100);
        x.plan(0, 0, 6, 200);
        x.plan(0, 0, 59, 300);
        x.plan(0, 0, 3, 400);
        x.advance(4);
        check.due("fail from day 5 on", 0, () -> x.fail(0, 5));
        line(x, 0, 1, 100, 1, 100, 0);
        line(x, 1, 2, 200, 1, 200, 0);
        line(x, 2, 3, 300, 1, 300, 0);
        lines(x, 3);
        check.due("the show of the day before stays", 0, () -> x.show(0, 0));
        check.due("the show that is over stays", 0, () -> x.show(4, 0));
        x.undo();
        check.due("fail from today on", 0, () -> x.fail(0, 4));
        line(x, 0, 0, 0, 1, 0, 0);
        lines(x, 4);
    }

    private void cancelledAndMovedAway() {
        CinemaProgramme x = cinema(10, 10);
        x.plan(0, 0, 5, 0);
        x.plan(0, 0, 5, 200);
        x.plan(0, 0, 5, 400);
        x.cancel(0);
        x.move(1, 1, 200);
        check.due("fail", 0, () -> x.fail(0, 5));
        line(x, 0, 2, 400, 1, 400, 0);
        lines(x, 1);
    }

    private void ascendingDaysThenStarts() {
        CinemaProgramme x = cinema(10, 10);
        x.plan(0, 0, 7, 0);
        x.plan(0, 0, 6, 860);
        x.plan(0, 0, 6, 0);
        x.plan(0, 0, 6, 400);
        x.plan(0, 0, 5, 500);
        check.due("fail", 0, () -> x.fail(0, 0));
        line(x, 0, 4, 500, 1, 500, 0);
        line(x, 1, 2, 0, 1, 0, 0);
        line(x, 2, 3, 400, 1, 400, 0);
        line(x, 3, 1, 860, 1, 860, 0);
        line(x, 4, 0, 0, 1, 0, 0);
        lines(x, 5);
    }

    /** A later show of the failed hall is in nobody's way: its print, its exit and its crew are free. */
    private void takenOutAtOnce() {
        CinemaProgramme x = new CinemaProgramme();
        x.addHall(10, 0, 0);
        x.addHall(10, 0, 0);
        x.addFilm(100, 0, 1, 1, 0);
        x.set(2, 0);
        x.plan(0, 0, 5, 100);
        x.plan(0, 0, 5, 200);
        x.set(2, 60);
        check.due("the first one does not wait for the print of the second", 0, () -> x.fail(0, 5));
        line(x, 0, 0, 100, 1, 100, 0);
        line(x, 1, 1, 200, 1, 260, 0);
    }

    /** The second show finds no place where the first one is by then. */
    private void amongShowsInTheirPlaces() {
        CinemaProgramme x = cinema(10, 10);
        x.plan(1, 0, 5, 50);
        x.plan(0, 0, 5, 100);
        x.plan(0, 0, 5, 200);
        check.due("fail", 0, () -> x.fail(0, 5));
        line(x, 0, 1, 100, 1, 150, 0);
        line(x, 1, 2, 200, 1, 250, 0);
        x.undo();
        x.set(4, 50);
        check.due("a shift that just reaches", 0, () -> x.fail(0, 5));
        x.undo();
        x.set(4, 49);
        check.due("the first finds none, the second one does", 1, () -> x.fail(0, 5));
        line(x, 0, 1, 100, -1, -1, 0);
        line(x, 1, 2, 200, 1, 200, 0);
    }

    /** Shows whose numbers descend while their starts ascend, each of another film, with its own length and rules. */
    private void filmAndLengthOfEachShow() {
        CinemaProgramme x = cinema(10, 10, 10);
        x.addFilm(240, 0, 1, 3, 0);
        x.addFilm(30, 2, 1, 1, 0);
        x.set(2, 0);
        x.plan(1, 1, 5, 200);
        x.plan(0, 0, 5, 860);
        x.plan(0, 1, 5, 500);
        x.plan(0, 2, 5, 440);
        x.plan(2, 0, 5, 490);
        x.plan(2, 0, 5, 690);
        x.setLimit(7, 1);
        x.setLimit(14, 1);
        check.due("fail", 0, () -> x.fail(0, 5));
        line(x, 0, 3, 440, 2, 419, 0);
        line(x, 1, 2, 500, 1, 500, 0);
        line(x, 2, 1, 860, 1, 860, 0);
        check.due("the end of the short one", 449, () -> x.show(3, 4));
        check.due("the end of the long one", 740, () -> x.show(2, 4));
        check.due("the end of the last one", 960, () -> x.show(1, 4));
    }

    private void anotherHallOnly() {
        CinemaProgramme x = cinema(10);
        x.plan(0, 0, 5, 100);
        x.sell(0, 4);
        check.due("there is no other hall", 1, () -> x.fail(0, 5));
        line(x, 0, 0, 100, -1, -1, 4);
        check.due("the tickets given back", 4, () -> x.account(9));
    }

    private void enoughSeats() {
        CinemaProgramme x = cinema(10, 4, 5, 6);
        x.plan(0, 0, 5, 100);
        x.sell(0, 5);
        check.due("a seat less, as many seats, a seat more", 0, () -> x.fail(0, 5));
        line(x, 0, 0, 100, 2, 100, 5);
        check.fails("no seat is left", Check.REFUSED, () -> x.sell(0, 1));
        x.undo();
        x.sell(0, 1);
        check.due("a ticket more", 0, () -> x.fail(0, 5));
        line(x, 0, 0, 100, 3, 100, 6);
        x.undo();
        x.sell(0, 1);
        check.due("too many tickets for all halls", 1, () -> x.fail(0, 5));
        line(x, 0, 0, 100, -1, -1, 7);
        CinemaProgramme y = cinema(10, 1);
        y.plan(0, 0, 5, 100);
        check.due("no tickets, one seat", 0, () -> y.fail(0, 5));
        line(y, 0, 0, 100, 1, 100, 0);
    }

    /** Shows whose numbers descend while their starts ascend: each needs a hall for its own tickets. */
    private void seatsForEachShow() {
        CinemaProgramme x = cinema(40, 20, 30);
        x.plan(0, 0, 5, 600);
        x.plan(0, 0, 5, 400);
        x.plan(0, 0, 5, 200);
        x.sell(0, 21);
        x.sell(1, 31);
        x.sell(2, 20);
        check.due("one has too many tickets", 1, () -> x.fail(0, 5));
        line(x, 0, 2, 200, 1, 200, 20);
        line(x, 1, 1, 400, -1, -1, 31);
        line(x, 2, 0, 600, 2, 600, 21);
        check.due("the tickets given back", 31, () -> x.account(9));
    }

    /** A long show in the other hall leaves no start but one that lies just the shift behind. */
    private void atMostTheShift() {
        for (int shift : new int[] {0, 1, 60, 119, 120}) {
            CinemaProgramme x = cinema(10, 10);
            x.addFilm(240, 0, 1, 3, 0);
            x.set(4, shift);
            x.plan(0, 0, 5, 400);
            x.plan(1, 1, 5, 160 + shift);
            check.due("a start that differs by the shift " + shift, 0, () -> x.fail(0, 5));
            line(x, 0, 0, 400, 1, 400 + shift, 0);
            x.undo();
            if (shift > 0) {
                x.set(4, shift - 1);
                check.due("a start that differs by a minute more than the shift " + (shift - 1), 1, () -> x.fail(0, 5));
                line(x, 0, 0, 400, -1, -1, 0);
            }
        }
        for (int shift : new int[] {0, 1, 60, 119, 120}) {
            CinemaProgramme x = cinema(10, 10);
            x.addFilm(240, 0, 1, 3, 0);
            x.set(4, shift);
            x.plan(0, 0, 5, 400);
            x.plan(1, 1, 5, 500 - shift);
            check.due("an earlier start that differs by the shift " + shift, 0, () -> x.fail(0, 5));
            line(x, 0, 0, 400, 1, 400 - shift, 0);
            x.undo();
            if (shift > 0) {
                x.set(4, shift - 1);
                check.due("an earlier one by a minute more than " + (shift - 1), 1, () -> x.fail(0, 5));
                line(x, 0, 0, 400, -1, -1, 0);
            }
        }
    }

    private void leastDifferenceFirst() {
        CinemaProgramme x = cinema(10, 10, 10);
        x.plan(0, 0, 5, 400);
        x.plan(1, 0, 5, 350);
        x.plan(2, 0, 5, 449);
        check.due("50 behind in hall 1, 51 ahead in hall 2", 0, () -> x.fail(0, 5));
        line(x, 0, 0, 400, 1, 450, 0);
        x.undo();
        x.move(2, 2, 451);
        check.due("50 behind in hall 1, 49 ahead in hall 2", 0, () -> x.fail(0, 5));
        line(x, 0, 0, 400, 2, 351, 0);
    }

    private void earlierStartThen() {
        CinemaProgramme x = cinema(10, 10, 10);
        x.plan(0, 0, 5, 400);
        x.plan(1, 0, 5, 350);
        x.plan(2, 0, 5, 450);
        check.due("50 behind in hall 1, 50 ahead in hall 2", 0, () -> x.fail(0, 5));
        line(x, 0, 0, 400, 2, 350, 0);
        x.undo();
        x.cancel(1);
        x.cancel(2);
        x.plan(1, 0, 5, 400);
        x.addFilm(30, 0, 1, 3, 0);
        x.plan(2, 0, 5, 400);
        x.set(4, 120);
        check.due("100 ahead or behind in both", 0, () -> x.fail(0, 5));
        line(x, 0, 0, 400, 1, 300, 0);
    }

    private void lowestHallThen() {
        CinemaProgramme x = cinema(10, 10, 10, 10);
        x.plan(2, 0, 5, 400);
        check.due("three halls at the same start", 0, () -> x.fail(2, 5));
        line(x, 0, 0, 400, 0, 400, 0);
        check.due("two halls behind it", 0, () -> x.fail(0, 5));
        line(x, 0, 0, 400, 1, 400, 0);
        check.due("the last hall", 0, () -> x.fail(1, 5));
        line(x, 0, 0, 400, 3, 400, 0);
        check.due("no hall", 1, () -> x.fail(3, 5));
        line(x, 0, 0, 400, -1, -1, 0);
    }

    /** A place breaks none of all rules: here each one leaves just one place, or none. */
    private void eachRuleForAPlace() {
        CinemaProgramme closed = cinema(10, 10);
        closed.plan(0, 0, 5, 400);
        closed.fail(1, 5);
        check.due("rule 2", 1, () -> closed.fail(0, 5));
        CinemaProgramme limit = cinema(10, 10);
        limit.plan(0, 0, 5, 430);
        limit.setLimit(7, 0);
        limit.setLimit(6, 0);
        check.due("rule 4", 0, () -> limit.fail(0, 5));
        line(limit, 0, 0, 430, 1, 480, 0);
        CinemaProgramme late = cinema(10, 10);
        late.plan(0, 0, 5, 860);
        late.setLimit(14, 0);
        late.setLimit(13, 0);
        check.due("rule 5", 1, () -> late.fail(0, 5));
        CinemaProgramme way = cinema(10, 10);
        way.plan(0, 0, 5, 400);
        way.plan(1, 0, 5, 361);
        check.due("rule 6", 1, () -> way.fail(0, 5));
        CinemaProgramme print = cinema(10, 10, 10);
        print.addFilm(100, 0, 1, 1, 0);
        print.set(2, 0);
        print.plan(0, 1, 5, 400);
        print.plan(2, 1, 5, 500);
        print.set(2, 10);
        check.due("rule 7", 0, () -> print.fail(0, 5));
        line(print, 0, 0, 400, 1, 390, 0);
        CinemaProgramme exit = new CinemaProgramme();
        exit.addHall(10, 0, 0);
        exit.addHall(10, 0, 1);
        exit.addHall(10, 0, 1);
        exit.addFilm(100, 0, 1, 3, 0);
        exit.set(4, 10);
        exit.plan(0, 0, 5, 400);
        exit.plan(2, 0, 5, 401);
        check.due("rule 8", 0, () -> exit.fail(0, 5));
        line(exit, 0, 0, 400, 1, 391, 0);
        exit.undo();
        exit.set(4, 8);
        check.due("rule 8, and too small a shift", 1, () -> exit.fail(0, 5));
        CinemaProgramme crew = new CinemaProgramme();
        crew.addHall(10, 0, 0);
        crew.addHall(10, 10, 1);
        crew.addHall(10, 10, 2);
        crew.addFilm(100, 0, 1, 3, 0);
        crew.set(1, 1);
        crew.plan(0, 0, 5, 400);
        crew.plan(2, 0, 5, 400);
        check.due("rule 9", 0, () -> crew.fail(0, 5));
        line(crew, 0, 0, 400, 1, 390, 0);
    }

    private void noPlaceAtAll() {
        CinemaProgramme x = cinema(10, 10);
        x.plan(0, 0, 5, 400);
        x.plan(1, 0, 5, 400);
        x.sell(0, 10);
        x.sell(1, 3);
        check.due("one show is cancelled", 1, () -> x.fail(0, 5));
        line(x, 0, 0, 400, -1, -1, 10);
        check.due("the cancelled show keeps its hall", 0, () -> x.show(0, 0));
        check.due("and its start", 400, () -> x.show(0, 3));
        check.due("and its end", 500, () -> x.show(0, 4));
        check.due("but has no tickets", 0, () -> x.show(0, 5));
        check.due("the tickets given back", 10, () -> x.account(9));
        check.due("two shows are planned, one is cancelled", 1, () -> x.account(4));
        check.due("the other one has its tickets", 3, () -> x.account(5));
        check.fails("cancel it again", Check.STATE, () -> x.cancel(0));
        check.due("the hall of the other one fails, too", 1, () -> x.fail(1, 5));
        line(x, 0, 1, 400, -1, -1, 3);
        check.due("all tickets are given back", 13, () -> x.account(9));
    }

    private void linesOfTheLatestFailure() {
        CinemaProgramme x = cinema(10, 10, 10);
        x.plan(0, 0, 5, 400);
        x.plan(0, 0, 6, 400);
        x.plan(1, 0, 6, 100);
        x.sell(0, 7);
        x.fail(0, 5);
        lines(x, 2);
        x.sell(0, 1);
        x.cancel(1);
        check.due("the tickets that it had", 7, () -> x.line(0, 4));
        check.due("its hall then", 1, () -> x.line(1, 2));
        x.advance(9);
        check.due("lines stay as days pass", 1, () -> x.line(1, 0));
        x.reopen(0);
        check.due("lines stay after reopen", 1, () -> x.line(1, 0));
        x.undo();
        x.undo();
        x.fail(1, 6);
        line(x, 0, 2, 100, 2, 100, 0);
        lines(x, 1);
        x.fail(2, 7);
        lines(x, 0);
    }

    private void failAgain() {
        CinemaProgramme x = cinema(10, 10);
        x.plan(0, 0, 5, 400);
        x.fail(0, 6);
        check.fails("closed from a later day on already", Check.STATE, () -> x.fail(0, 5));
        check.due("the day stays", 6, () -> x.hall(0, 3));
        check.due("the show stays", 0, () -> x.show(0, 0));
        x.advance(10);
        check.fails("closed from a day before today on", Check.STATE, () -> x.fail(0, 10));
        check.due("reopen", 6, () -> x.reopen(0));
        check.fails("reopen an open hall", Check.STATE, () -> x.reopen(0));
        check.due("fail again", 0, () -> x.fail(0, 10));
        check.due("the new day", 10, () -> x.hall(0, 3));
    }

    private void reasonsElevenAndTwelve() {
        CinemaProgramme x = cinema(10, 5, 6);
        x.plan(0, 0, 5, 400);
        x.sell(0, 6);
        check.fails("a seat less than tickets", Check.REFUSED, () -> x.move(0, 1, 400));
        check.due("the reason", 11, () -> x.refusal(false));
        check.due("the seats of the hall", 5, () -> x.refusal(true));
        check.due("the hall of the show", 0, () -> x.show(0, 0));
        check.due("as many seats as tickets", 10, () -> x.move(0, 2, 410));
        check.fails("no seat left", Check.REFUSED, () -> x.sell(0, 1));
        check.due("the reason", 12, () -> x.refusal(false));
        check.due("no seat left", 0, () -> x.refusal(true));
        check.due("back to the larger hall", 10, () -> x.move(0, 0, 400));
        check.fails("five tickets for four seats", Check.REFUSED, () -> x.sell(0, 5));
        check.due("four seats left", 4, () -> x.refusal(true));
        check.due("four tickets for four seats", 10, () -> x.sell(0, 4));
    }

    /** The latest reason is kept with its detail, whatever else is called then. */
    private void latestReason() {
        CinemaProgramme x = cinema(10, 10);
        x.plan(0, 0, 5, 400);
        check.fails("rule 6", Check.REFUSED, () -> x.plan(0, 0, 5, 400));
        check.due("the reason 6", 6, () -> x.refusal(false));
        check.due("its detail", 0, () -> x.refusal(true));
        check.fails("reason 12", Check.REFUSED, () -> x.sell(0, 11));
        check.due("the reason 12", 12, () -> x.refusal(false));
        check.due("its detail", 10, () -> x.refusal(true));
        check.fails("rule 5", Check.REFUSED, () -> x.move(0, 0, 861));
        check.due("the reason 5", 5, () -> x.refusal(false));
        check.due("its detail", 961, () -> x.refusal(true));
        x.sell(0, 1);
        check.fails("no such show", Check.INDEX, () -> x.sell(1, 11));
        check.fails("no such minute", Check.ARGUMENT, () -> x.plan(0, 0, 5, 960));
        x.advance(1);
        x.undo();
        x.save();
        x.restore();
        check.due("the reason is still 5", 5, () -> x.refusal(false));
        check.due("its detail is still 961", 961, () -> x.refusal(true));
    }
}
