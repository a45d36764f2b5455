/** Promises 37 to 39: undo, saving and restoring. */
final class HistoryTest {
    private final Check check = new Check("HistoryTest");

    private HistoryTest() {
    }

    public static void main(String[] args) {
        HistoryTest test = new HistoryTest();
        test.eachChange();
        test.eightChanges();
        test.noChanges();
        test.saving();
        test.whatStays();
        test.rowsUsedAgain();
        test.check.end();
    }

    private static CinemaProgramme cinema() {
        CinemaProgramme x = new CinemaProgramme();
        x.addHall(100, 0, 0);
        x.addHall(100, 0, 1);
        x.addFilm(30, 0, 1, 3, 0);
        x.plan(0, 0, 3, 0);
        x.sell(0, 10);
        return x;
    }

    private void undoes(String what, CinemaProgramme x, long due, Check.Call asked, Check.Call change) {
        long before = asked.answer();
        change.answer();
        check.due(what, due, asked);
        x.undo();
        check.due("undo of " + what, before, asked);
    }

    private void eachChange() {
        CinemaProgramme x = cinema();
        undoes("addHall", x, 3, () -> x.account(0), () -> x.addHall(1, 0, 0));
        undoes("addFilm", x, 2, () -> x.account(1), () -> x.addFilm(30, 0, 1, 1, 0));
        undoes("addTrailer", x, 1, () -> x.account(2), () -> x.addTrailer(0, 1, 0, 1));
        undoes("set", x, 0, () -> x.setting(4), () -> x.set(4, 0));
        undoes("setLimit", x, 1, () -> x.setting(13), () -> x.setLimit(3, 1));
        undoes("setShares", x, 33, () -> x.film(0, 9), () -> x.setShares(0, 33, 0, 0));
        undoes("plan", x, 2, () -> x.account(3), () -> x.plan(0, 0, 4, 0));
        undoes("move", x, 50, () -> x.show(0, 3), () -> x.move(0, 1, 50));
        undoes("cancel", x, 10, () -> x.account(9), () -> x.cancel(0));
        undoes("sell", x, 11, () -> x.show(0, 5), () -> x.sell(0, 1));
        undoes("fail", x, 1, () -> x.show(0, 0), () -> x.fail(0, 2));
        undoes("advance", x, 4, () -> x.account(11), () -> x.advance(4));
        undoes("perform", x, 2, () -> x.account(11), () -> {
            Check.type(x, "days 1;days 1");
            return x.perform();
        });
        x.fail(1, 0);
        undoes("reopen", x, -1, () -> x.hall(1, 3), () -> x.reopen(1));
        undoes("a setting that stays as it is", x, 10, () -> x.setting(0), () -> x.set(0, 10));
        undoes("a move to the same place", x, 0, () -> x.show(0, 3), () -> x.move(0, 0, 0));
        check.due("the changes that can still be undone", 5, () -> x.undo());
    }

    private void eightChanges() {
        CinemaProgramme x = new CinemaProgramme();
        for (int day = 1; day <= 3; day++) {
            x.advance(1);
        }
        check.due("undo of the third", 2, () -> x.undo());
        check.due("undo of the second", 1, () -> x.undo());
        check.due("today", 1, () -> x.account(11));
        check.due("undo of the first", 0, () -> x.undo());
        check.fails("undo of nothing", Check.STATE, () -> x.undo());
        check.due("today", 0, () -> x.account(11));
        for (int day = 1; day <= 20; day++) {
            x.advance(1);
        }
        for (int left = 7; left >= 0; left--) {
            int due = left;
            check.due("undo of the eight latest", due, () -> x.undo());
            check.due("today", 12 + due, () -> x.account(11));
        }
        check.fails("undo of a ninth", Check.STATE, () -> x.undo());
        check.due("today", 12, () -> x.account(11));
        x.advance(1);
        x.advance(1);
        x.undo();
        x.advance(5);
        check.due("undo of a change behind an undone one", 1, () -> x.undo());
        check.due("today", 13, () -> x.account(11));
        check.due("undo of the one ahead of it", 0, () -> x.undo());
        check.due("today", 12, () -> x.account(11));
    }

    private void noChanges() {
        CinemaProgramme x = cinema();
        check.fails("a wrong addHall", Check.ARGUMENT, () -> x.addHall(0, 0, 0));
        check.fails("a plan that is refused", Check.REFUSED, () -> x.plan(0, 0, 3, 0));
        check.fails("a sale that is refused", Check.REFUSED, () -> x.sell(0, 400));
        check.fails("a text that is none", Check.ARGUMENT, () -> x.perform());
        Check.type(x, "days 1;drop 9");
        check.fails("a text that is not carried out", Check.REFUSED, () -> x.perform());
        x.save();
        x.write(0, 0);
        x.why(0, 0, 0, 0, true);
        check.due("undo of the sale", 4, () -> x.undo());
        check.due("the tickets", 0, () -> x.show(0, 5));
        for (int k = 0; k < 10; k++) {
            x.advance(1);
        }
        Check.type(x, "days 1;drop 9");
        check.fails("a text that is not carried out, with eight changes", Check.REFUSED, () -> x.perform());
        for (int left = 7; left >= 0; left--) {
            int due = left;
            check.due("undo of the eight changes", due, () -> x.undo());
        }
        check.due("today", 2, () -> x.account(11));
    }

    private void saving() {
        CinemaProgramme x = cinema();
        check.fails("restore without saving", Check.STATE, () -> x.restore());
        check.due("save", 1, () -> x.save());
        x.plan(1, 0, 4, 0);
        x.cancel(0);
        x.fail(1, 4);
        x.set(5, 50);
        x.setLimit(0, 0);
        check.due("restore", 1, () -> x.restore());
        check.due("the shows", 1, () -> x.account(3));
        check.due("the tickets", 10, () -> x.show(0, 5));
        check.due("the tickets given back", 0, () -> x.account(9));
        check.due("the price", 10, () -> x.setting(5));
        check.due("the limit", 3, () -> x.setting(10));
        check.due("the hall", -1, () -> x.hall(1, 3));
        check.fails("the lines", Check.NO_ELEMENT, () -> x.line(0, 0));
        check.fails("undo after restore", Check.STATE, () -> x.undo());
        x.advance(5);
        check.due("restore again", 1, () -> x.restore());
        check.due("today", 0, () -> x.account(11));
        x.advance(1);
        check.due("undo of a change after restore", 0, () -> x.undo());
        x.plan(1, 0, 4, 0);
        x.fail(1, 4);
        check.due("save in place of what was saved", 2, () -> x.save());
        check.due("undo after saving", 1, () -> x.undo());
        check.due("the hall", -1, () -> x.hall(1, 3));
        check.due("restore", 2, () -> x.restore());
        check.due("the hall", 4, () -> x.hall(1, 3));
        check.due("the line", 1, () -> x.line(0, 0));
    }

    private void whatStays() {
        CinemaProgramme x = cinema();
        x.append('x');
        check.fails("a wrong text", Check.ARGUMENT, () -> x.perform());
        x.write(0, 3);
        x.save();
        check.fails("a refused sale", Check.REFUSED, () -> x.sell(0, 91));
        x.append('y');
        x.undo();
        check.due("the reason after undo", 12, () -> x.refusal(false));
        check.due("its detail after undo", 90, () -> x.refusal(true));
        check.due("the error position after undo", 0, () -> x.errorPosition());
        check.same("the programme after undo", "0-30 f0 10/100", Check.written(x));
        check.due("the input after undo", 2, () -> x.append('z'));
        x.restore();
        check.due("the reason after restore", 12, () -> x.refusal(false));
        check.due("the error position after restore", 0, () -> x.errorPosition());
        check.same("the programme after restore", "0-30 f0 10/100", Check.written(x));
        check.due("the input after restore", 3, () -> x.append('z'));
    }

    private void rowsUsedAgain() {
        CinemaProgramme x = cinema();
        x.plan(0, 0, 4, 0);
        x.sell(1, 44);
        x.cancel(1);
        x.undo();
        x.undo();
        x.undo();
        check.due("plan after undo", 1, () -> x.plan(1, 0, 5, 60));
        int[] due = {1, 0, 5, 60, 90, 0, 0, 10, 0, 0, 0, 0};
        for (int what = 0; what < due.length; what++) {
            int asked = what;
            check.due("show(1, " + what + ")", due[what], () -> x.show(1, asked));
        }
        x.fail(1, 5);
        x.undo();
        x.undo();
        x.addHall(50, 5, 2);
        check.due("a hall in a new row", -1, () -> x.hall(2, 3));
    }
}
