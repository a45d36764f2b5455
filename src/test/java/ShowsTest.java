/** Promises 16 to 19, and the reasons 11 and 12: shows that are moved, cancelled and sold. */
final class ShowsTest {
    private final Check check = new Check("ShowsTest");

    private ShowsTest() {
    }

    public static void main(String[] args) {
        ShowsTest test = new ShowsTest();
        test.moving();
        test.movingRefused();
        test.movingKeeps();
        test.cancelling();
        test.selling();
        test.statesAndMoney();
        test.check.end();
    }

    private static CinemaProgramme cinema() {
        CinemaProgramme x = new CinemaProgramme();
        x.addHall(100, 20, 0);
        x.addHall(40, 20, 1);
        x.addHall(400, 0, 2);
        x.addFilm(100, 1, 1, 2, 0);
        x.addFilm(50, 2, 1, 1, 10);
        return x;
    }

    private void moving() {
        CinemaProgramme x = cinema();
        x.plan(0, 0, 3, 200);
        check.due("move to where it is", 0, () -> x.move(0, 0, 200));
        check.due("move to a later start", 50, () -> x.move(0, 0, 250));
        check.due("move to an earlier start", 130, () -> x.move(0, 1, 120));
        check.due("its hall", 1, () -> x.show(0, 0));
        check.due("its day", 3, () -> x.show(0, 2));
        check.due("its start", 120, () -> x.show(0, 3));
        check.due("its end", 220, () -> x.show(0, 4));
        check.due("the minutes of hall 0", 0, () -> x.hall(0, 5));
        check.due("the minutes of hall 1", 100, () -> x.hall(1, 5));
        check.fails("move(1, 0, 960)", Check.INDEX, () -> x.move(1, 0, 960));
        check.fails("move(-1, 0, 0)", Check.INDEX, () -> x.move(-1, 0, 0));
        check.fails("move(0, 3, 0)", Check.INDEX, () -> x.move(0, 3, 0));
        check.fails("move(0, -1, 0)", Check.INDEX, () -> x.move(0, -1, 0));
        check.fails("move(0, 0, 960)", Check.ARGUMENT, () -> x.move(0, 0, 960));
        check.fails("move(0, 0, -1)", Check.ARGUMENT, () -> x.move(0, 0, -1));
        check.due("undo of a move", 7, () -> x.undo());
        check.due("its start", 250, () -> x.show(0, 3));
        x.advance(3);
        check.due("move of a show of today", 0, () -> x.move(0, 1, 250));
        x.advance(1);
        check.fails("move of a show that is over", Check.STATE, () -> x.move(0, 1, 250));
        check.fails("a wrong move of it", Check.ARGUMENT, () -> x.move(0, 1, 960));
        x.plan(0, 0, 5, 0);
        x.cancel(1);
        check.fails("move of a show that is cancelled", Check.STATE, () -> x.move(1, 0, 100));
    }

    private void movingRefused() {
        CinemaProgramme x = cinema();
        x.plan(0, 0, 0, 100);
        x.plan(0, 0, 0, 300);
        x.sell(0, 41);
        x.fail(1, 20);
        x.setLimit(15, 0);
        refused(x, 0, 1, 959, 11, 40);
        refused(x, 0, 0, 900, 4, 0);
        refused(x, 0, 0, 861, 5, 961);
        refused(x, 0, 0, 250, 6, 1);
        refused(x, 1, 0, 219, 6, 0);
        check.due("a show in its own way", 20, () -> x.move(1, 0, 280));
        check.due("all seats of a smaller hall", 0, () -> x.sell(1, 40) - 40);
        check.due("move with as many tickets as seats", 0, () -> x.move(1, 1, 280));
        x.sell(0, 59);
        x.setLimit(4, 0);
        refused(x, 1, 1, 280, 4, 0);
        x.plan(2, 0, 20, 0);
        refused(x, 2, 1, 0, 2, 1);
        x.plan(0, 0, 20, 100);
        x.plan(1, 0, 19, 0);
        check.due("the own print does not count", 10, () -> x.move(3, 0, 110));
        x.plan(1, 1, 19, 150);
        x.set(1, 1);
        refused(x, 5, 0, 40, 9, 100);
        x.plan(2, 1, 19, 220);
        check.due("the reason stays after a plan", 9, () -> x.refusal(false));
        x.move(6, 2, 225);
        check.due("the reason stays after a move", 9, () -> x.refusal(false));
        check.due("its detail stays", 100, () -> x.refusal(true));
    }

    private void refused(CinemaProgramme x, int show, int hall, int start, int reason, int detail) {
        String call = "move(" + show + ", " + hall + ", " + start + ")";
        int place = x.show(show, 0) * 1000 + x.show(show, 3);
        check.fails(call, Check.REFUSED, () -> x.move(show, hall, start));
        check.due("the reason of " + call, reason, () -> x.refusal(false));
        check.due("the detail of " + call, detail, () -> x.refusal(true));
        check.due("the place after " + call, place, () -> x.show(show, 0) * 1000 + x.show(show, 3));
    }

    private void movingKeeps() {
        CinemaProgramme x = cinema();
        x.addTrailer(1, 5, 0, 1);
        x.plan(0, 0, 0, 100);
        x.sell(0, 7);
        x.set(5, 50);
        x.set(3, 0);
        x.move(0, 2, 500);
        int[] due = {2, 0, 0, 500, 605, 7, 1, 10, 0, 70, 42, 5};
        for (int what = 0; what < due.length; what++) {
            int asked = what;
            check.due("show(0, " + what + ") after a move", due[what], () -> x.show(0, asked));
        }
        check.fails("the reel counts at the end of the day", Check.REFUSED, () -> x.move(0, 2, 856));
        check.due("its end", 961, () -> x.refusal(true));
        check.due("a start that is just early enough", 355, () -> x.move(0, 2, 855));
    }

    private void cancelling() {
        CinemaProgramme x = cinema();
        check.fails("cancel without shows", Check.INDEX, () -> x.cancel(0));
        x.plan(0, 0, 2, 100);
        x.plan(1, 0, 2, 100);
        x.sell(0, 30);
        check.due("cancel", 30, () -> x.cancel(0));
        check.due("its tickets", 0, () -> x.show(0, 5));
        check.due("its state", 1, () -> x.show(0, 8));
        check.due("its receipts", 0, () -> x.show(0, 9));
        check.due("its hall", 0, () -> x.show(0, 0));
        check.due("its start", 100, () -> x.show(0, 3));
        check.due("its end", 200, () -> x.show(0, 4));
        check.due("the tickets given back", 30, () -> x.account(9));
        check.due("the cancelled shows", 1, () -> x.account(4));
        check.fails("cancel again", Check.STATE, () -> x.cancel(0));
        check.fails("cancel(2)", Check.INDEX, () -> x.cancel(2));
        check.fails("cancel(-1)", Check.INDEX, () -> x.cancel(-1));
        x.advance(2);
        check.due("cancel a show of today, without tickets", 0, () -> x.cancel(1));
        x.undo();
        x.advance(1);
        check.fails("cancel a show that is over", Check.STATE, () -> x.cancel(1));
        check.due("a cancelled show that is over, too", 1, () -> x.show(0, 8));
        check.due("a show that is over", 2, () -> x.show(1, 8));
    }

    private void selling() {
        CinemaProgramme x = cinema();
        check.fails("sell without shows", Check.INDEX, () -> x.sell(0, 0));
        x.plan(1, 0, 2, 100);
        x.plan(2, 0, 2, 100);
        check.fails("sell(0, 0)", Check.ARGUMENT, () -> x.sell(0, 0));
        check.fails("sell(0, 401)", Check.ARGUMENT, () -> x.sell(0, 401));
        check.fails("sell(0, -1)", Check.ARGUMENT, () -> x.sell(0, -1));
        check.fails("sell(-1, 1)", Check.INDEX, () -> x.sell(-1, 1));
        check.due("sell(0, 1)", 1, () -> x.sell(0, 1));
        check.fails("sell(0, 40)", Check.REFUSED, () -> x.sell(0, 40));
        check.due("the reason", 12, () -> x.refusal(false));
        check.due("the seats left", 39, () -> x.refusal(true));
        check.due("sell the rest", 40, () -> x.sell(0, 39));
        check.fails("sell(0, 1) in a full hall", Check.REFUSED, () -> x.sell(0, 1));
        check.due("no seats left", 0, () -> x.refusal(true));
        check.due("sell(1, 400)", 400, () -> x.sell(1, 400));
        x.advance(2);
        check.fails("sell for a show of today", Check.REFUSED, () -> x.sell(0, 1));
        x.advance(1);
        check.fails("sell for a show that is over", Check.STATE, () -> x.sell(0, 1));
        check.fails("a wrong number for it", Check.ARGUMENT, () -> x.sell(0, 0));
        x.plan(0, 0, 3, 0);
        x.cancel(2);
        check.fails("sell for a cancelled show", Check.STATE, () -> x.sell(2, 1));
    }

    private void statesAndMoney() {
        CinemaProgramme x = cinema();
        x.set(5, 7);
        x.plan(0, 0, 7, 100);
        x.sell(0, 33);
        check.due("the price", 7, () -> x.show(0, 7));
        check.due("the receipts", 231, () -> x.show(0, 9));
        check.due("the part at a share of 50", 115, () -> x.show(0, 10));
        x.setShares(0, 41, 3, 0);
        check.due("the part at a share of 38", 87, () -> x.show(0, 10));
        check.fails("show(1, 12)", Check.INDEX, () -> x.show(1, 12));
        check.fails("show(-1, 0)", Check.INDEX, () -> x.show(-1, 0));
        check.fails("show(0, 12)", Check.ARGUMENT, () -> x.show(0, 12));
        check.fails("show(0, -1)", Check.ARGUMENT, () -> x.show(0, -1));
        x.advance(7);
        check.due("a show of today", 0, () -> x.show(0, 8));
        x.advance(1);
        check.due("a show of yesterday", 2, () -> x.show(0, 8));
        check.due("its tickets", 33, () -> x.show(0, 5));
    }
}
