/**
 * A method that throws an exception leaves the state unchanged, and questions do, too: each wrong call is made on one
 * of two objects that are alike, and they must be alike after it, also when both are undone and restored.
 */
final class UnchangedTest {
    private final Check check = new Check("UnchangedTest");

    private UnchangedTest() {
    }

    public static void main(String[] args) {
        UnchangedTest test = new UnchangedTest();
        test.wrongAdditions();
        test.wrongSettings();
        test.wrongPlans();
        test.wrongMoves();
        test.wrongSalesAndCancels();
        test.wrongFailures();
        test.wrongQuestions();
        test.refusals();
        test.wrongTexts();
        test.textsNotCarriedOut();
        test.questions();
        test.nothingToUndoOrRestore();
        test.fullThings();
        test.check.end();
    }

    /**
     * Show 0 is over, 1 has 60 tickets, 2 is cancelled, 3 was moved by a failure. Something was saved, a programme was
     * written, a call was refused, a text was wrong, and half of another stands in the input.
     */
    private static CinemaProgramme cinema() {
        CinemaProgramme x = cinemaWithoutInput();
        Check.type(x, "days 1");
        return x;
    }

    private static CinemaProgramme cinemaWithoutInput() {
        CinemaProgramme x = new CinemaProgramme();
        x.addHall(100, 20, 0);
        x.addHall(50, 10, 1);
        x.addFilm(90, 1, 3, 1, 0);
        x.addFilm(60, 2, 2, 2, 20);
        x.addTrailer(1, 4, 1, 2);
        x.plan(0, 0, 0, 100);
        x.plan(0, 0, 3, 100);
        x.plan(1, 0, 4, 200);
        x.plan(0, 0, 5, 300);
        x.sell(1, 60);
        x.sell(3, 7);
        x.save();
        x.cancel(2);
        x.advance(2);
        x.fail(0, 5);
        x.set(5, 12);
        Check.type(x, "sell 1 41");
        refuse(x);
        Check.type(x, "days 1x");
        refuse(x);
        x.write(0, 3);
        return x;
    }

    private static void refuse(CinemaProgramme x) {
        try {
            x.perform();
            throw new IllegalStateException("the text should be wrong");
        } catch (UnsupportedOperationException | IllegalArgumentException e) {
            x.write(0, 0);
        }
    }

    private void alike(String what, CinemaProgramme x, CinemaProgramme y) {
        check.same("the state after " + what, View.state(y), View.state(x));
        check.due("the changes after " + what, y.undo(), () -> x.undo());
        check.same("the state before the latest change, after " + what, View.state(y), View.state(x));
        check.due("what was saved after " + what, y.restore(), () -> x.restore());
        check.same("the saved state after " + what, View.accounts(y), View.accounts(x));
    }

    /** The text "days 1!" is wrong at its last character, and no other text is. */
    private void inputStays(String what, CinemaProgramme x) {
        check.due("the length of the input after " + what, 7, () -> x.append('!'));
        check.fails("the text after " + what, Check.ARGUMENT, () -> x.perform());
        check.due("its error position after " + what, 6, () -> x.errorPosition());
    }

    private void throwing(String what, Class<? extends RuntimeException> due, Check.CinemaCall call) {
        CinemaProgramme x = cinema();
        CinemaProgramme y = cinema();
        check.fails(what, due, () -> call.answer(x));
        check.same("what is kept after " + what, View.rest(y), View.rest(x));
        inputStays(what, x);
        alike(what, x, y);
    }

    private void wrongAdditions() {
        throwing("addHall(0, 0, 0)", Check.ARGUMENT, x -> x.addHall(0, 0, 0));
        throwing("addHall(1, 0, 3)", Check.ARGUMENT, x -> x.addHall(1, 0, 3));
        throwing("addFilm with a release day of 60", Check.ARGUMENT, x -> x.addFilm(30, 0, 1, 1, 60));
        throwing("addFilm without genres", Check.ARGUMENT, x -> x.addFilm(30, 0, 0, 1, 0));
        throwing("addTrailer for no film", Check.INDEX, x -> x.addTrailer(2, 1, 0, 1));
        throwing("addTrailer of 7 minutes", Check.ARGUMENT, x -> x.addTrailer(0, 7, 0, 1));
        throwing("addTrailer without genres", Check.ARGUMENT, x -> x.addTrailer(0, 1, 0, 0));
    }

    private void wrongSettings() {
        throwing("setShares of no film", Check.INDEX, x -> x.setShares(2, 1, 1, 1));
        throwing("setShares with a first of 101", Check.ARGUMENT, x -> x.setShares(0, 101, 1, 1));
        throwing("setShares with a step of 51", Check.ARGUMENT, x -> x.setShares(0, 50, 51, 1));
        throwing("setShares with a least above the first", Check.ARGUMENT, x -> x.setShares(0, 50, 1, 51));
        throwing("set(6, 0)", Check.INDEX, x -> x.set(6, 0));
        throwing("set(1, 0)", Check.ARGUMENT, x -> x.set(1, 0));
        throwing("setLimit(16, 0)", Check.INDEX, x -> x.setLimit(16, 0));
        throwing("setLimit(0, 4)", Check.ARGUMENT, x -> x.setLimit(0, 4));
        throwing("advance(0)", Check.ARGUMENT, x -> x.advance(0));
        throwing("advance(31)", Check.ARGUMENT, x -> x.advance(31));
    }

    private void wrongPlans() {
        throwing("plan in no hall", Check.INDEX, x -> x.plan(2, 0, 4, 0));
        throwing("plan of no film", Check.INDEX, x -> x.plan(0, 2, 4, 0));
        throwing("plan on day 60", Check.ARGUMENT, x -> x.plan(0, 0, 60, 0));
        throwing("plan at minute 960", Check.ARGUMENT, x -> x.plan(0, 0, 4, 960));
    }

    private void wrongMoves() {
        throwing("move of no show", Check.INDEX, x -> x.move(4, 0, 0));
        throwing("move to no hall", Check.INDEX, x -> x.move(1, 2, 0));
        throwing("move to minute 960", Check.ARGUMENT, x -> x.move(1, 0, 960));
        throwing("move of a cancelled show", Check.STATE, x -> x.move(2, 0, 500));
        throwing("move of a show that is over", Check.STATE, x -> x.move(0, 0, 500));
    }

    private void wrongSalesAndCancels() {
        throwing("cancel of no show", Check.INDEX, x -> x.cancel(4));
        throwing("cancel of a cancelled show", Check.STATE, x -> x.cancel(2));
        throwing("cancel of a show that is over", Check.STATE, x -> x.cancel(0));
        throwing("sell for no show", Check.INDEX, x -> x.sell(4, 1));
        throwing("sell of 0 tickets", Check.ARGUMENT, x -> x.sell(1, 0));
        throwing("sell of 401 tickets", Check.ARGUMENT, x -> x.sell(1, 401));
        throwing("sell for a cancelled show", Check.STATE, x -> x.sell(2, 1));
        throwing("sell for a show that is over", Check.STATE, x -> x.sell(0, 1));
    }

    private void wrongFailures() {
        throwing("fail of no hall", Check.INDEX, x -> x.fail(2, 3));
        throwing("fail on day 60", Check.ARGUMENT, x -> x.fail(1, 60));
        throwing("fail on the day before today", Check.ARGUMENT, x -> x.fail(1, 1));
        throwing("fail of a closed hall", Check.STATE, x -> x.fail(0, 2));
        throwing("reopen of no hall", Check.INDEX, x -> x.reopen(2));
        throwing("reopen of an open hall", Check.STATE, x -> x.reopen(1));
    }

    private void wrongQuestions() {
        throwing("write of no hall", Check.INDEX, x -> x.write(2, 0));
        throwing("write on day 60", Check.ARGUMENT, x -> x.write(0, 60));
        throwing("written behind the last character", Check.INDEX, x -> x.written(99));
        throwing("append of code 127", Check.ARGUMENT, x -> x.append((char) 127));
        throwing("firstStart on a day before today", Check.NO_ELEMENT, x -> x.firstStart(0, 0, 1, 0));
        throwing("share before the release", Check.NO_ELEMENT, x -> x.share(1, 19));
        throwing("line(1, 0)", Check.NO_ELEMENT, x -> x.line(1, 0));
        throwing("line(0, 5)", Check.ARGUMENT, x -> x.line(0, 5));
        throwing("why on day 60", Check.ARGUMENT, x -> x.why(0, 0, 60, 0, true));
    }

    private void refused(String what, int reason, int detail, Check.CinemaCall call) {
        CinemaProgramme x = cinema();
        CinemaProgramme y = cinema();
        String written = Check.written(x);
        int position = x.errorPosition();
        check.fails(what, Check.REFUSED, () -> call.answer(x));
        check.due("the reason of " + what, reason, () -> x.refusal(false));
        check.due("the detail of " + what, detail, () -> x.refusal(true));
        check.same("the programme after " + what, written, Check.written(x));
        check.due("the error position after " + what, position, () -> x.errorPosition());
        inputStays(what, x);
        alike(what, x, y);
    }

    private void refusals() {
        refused("plan before today", 1, 2, x -> x.plan(0, 0, 1, 0));
        refused("plan in a closed hall", 2, 0, x -> x.plan(0, 0, 5, 0));
        refused("plan before the release", 3, 20, x -> x.plan(1, 1, 19, 0));
        refused("plan behind the end of the day", 5, 961, x -> x.plan(0, 0, 4, 867));
        refused("plan in the way of a show", 6, 1, x -> x.plan(0, 0, 3, 150));
        refused("plan of a second print", 7, 150, x -> x.plan(1, 0, 3, 150));
        refused("move to a smaller hall", 11, 50, x -> x.move(1, 1, 100));
        refused("move behind the end of the day", 5, 961, x -> x.move(1, 0, 867));
        refused("move into a closed hall", 2, 0, x -> x.move(3, 0, 300));
        refused("sell of more tickets than there are seats left", 12, 40, x -> x.sell(1, 41));
    }

    /** After a text that throws the input is empty; all else stays but what the call keeps. */
    private void afterText(String what, CinemaProgramme x, CinemaProgramme y) {
        check.same("the programme after " + what, Check.written(y), Check.written(x));
        check.due("the input is empty after " + what, 1, () -> x.append('x'));
        alike(what, x, y);
    }

    private void wrongTexts() {
        String[] texts = {"", " ", ";", "x", "days 1;", "sell 1 1;sell 1 1;", "sell 1 1;x", "drop 1;drop 01",
            "fail 1 5;fail", "plan 1 1 30 0;plan 1 1 30 300 ",
            "days 1;days 1;days 1;days 1;days 1;days 1;days 1;days 1;drop"};
        int[] due = {0, 0, 0, 0, 7, 18, 9, 13, 13, 29, 60};
        for (int k = 0; k < texts.length; k++) {
            String what = "the text \"" + texts[k] + "\"";
            int position = due[k];
            CinemaProgramme x = cinemaWithoutInput();
            CinemaProgramme y = cinemaWithoutInput();
            Check.type(x, texts[k]);
            check.fails(what, Check.ARGUMENT, () -> x.perform());
            check.due("the error position of " + what, position, () -> x.errorPosition());
            check.due("the reason after " + what, 12, () -> x.refusal(false));
            check.due("its detail after " + what, 40, () -> x.refusal(true));
            afterText(what, x, y);
        }
    }

    private void textsNotCarriedOut() {
        notCarriedOut("drop 4", 12, 40);
        notCarriedOut("drop 1;drop 1", 12, 40);
        notCarriedOut("sell 1 5;sell 1 0", 12, 40);
        notCarriedOut("sell 1 5;sell 1 401", 12, 40);
        notCarriedOut("plan 1 0 2 0;plan 2 0 2 0", 12, 40);
        notCarriedOut("fail 1 2;fail 1 2", 12, 40);
        notCarriedOut("fail 1 5;days 58", 12, 40);
        notCarriedOut("days 9;days 0", 12, 40);
        notCarriedOut("days 1;fail 1 2", 12, 40);
        notCarriedOut("days 5;drop 1", 12, 40);
        notCarriedOut("sell 1 5;sell 1 36", 12, 35);
        notCarriedOut("plan 1 0 2 0;plan 0 0 2 104", 7, 104);
        notCarriedOut("plan 1 0 2 0;sell 4 51", 12, 50);
        notCarriedOut("fail 1 2;plan 1 0 2 0", 2, 1);
        notCarriedOut("days 4;plan 1 0 5 0", 1, 6);
        notCarriedOut("drop 1;plan 0 0 3 100;plan 0 0 3 100", 6, 4);
    }

    private void notCarriedOut(String text, int reason, int detail) {
        String what = "the text \"" + text + "\"";
        CinemaProgramme x = cinemaWithoutInput();
        CinemaProgramme y = cinemaWithoutInput();
        int position = x.errorPosition();
        Check.type(x, text);
        check.fails(what, Check.REFUSED, () -> x.perform());
        check.due("the reason after " + what, reason, () -> x.refusal(false));
        check.due("its detail after " + what, detail, () -> x.refusal(true));
        check.due("the error position after " + what, position, () -> x.errorPosition());
        afterText(what, x, y);
    }

    private void asking(String what, Check.CinemaCall call) {
        CinemaProgramme x = cinema();
        CinemaProgramme y = cinema();
        check.answers(what, () -> call.answer(x));
        check.same("what is kept after " + what, View.rest(y), View.rest(x));
        inputStays(what, x);
        alike(what, x, y);
    }

    private void questions() {
        asking("reel", x -> x.reel(0, 3, true));
        asking("fits", x -> Check.flag(x.fits(0, 0, 3)));
        asking("why of a place", x -> x.why(1, 0, 6, 0, false));
        asking("why of a broken rule", x -> x.why(0, 0, 3, 100, true));
        asking("firstStart", x -> x.firstStart(1, 0, 3, 0));
        asking("used", x -> x.used(1, 5, 1));
        asking("at", x -> x.at(3, 150, 2));
        asking("bestFilm", x -> x.bestFilm());
        asking("use", x -> (long) x.use());
        asking("written", x -> x.written(0));
        asking("share", x -> x.share(0, 59));
    }

    private void nothingToUndoOrRestore() {
        CinemaProgramme x = cinemaWithoutInput();
        x.restore();
        String state = View.state(x);
        check.fails("undo of nothing", Check.STATE, () -> x.undo());
        check.fails("undo of nothing again", Check.STATE, () -> x.undo());
        check.same("the state after undo of nothing", state, View.state(x));
        CinemaProgramme y = new CinemaProgramme();
        y.addHall(7, 7, 1);
        String other = View.state(y);
        check.fails("restore of nothing", Check.STATE, () -> y.restore());
        check.same("the state after restore of nothing", other, View.state(y));
        check.due("the change stays to be undone", 0, () -> y.undo());
    }

    private void full(String what, CinemaProgramme x, Check.CinemaCall call) {
        String state = View.state(x);
        check.fails(what, Check.STATE, () -> call.answer(x));
        check.same("the state after " + what, state, View.state(x));
    }

    private void fullThings() {
        CinemaProgramme halls = new CinemaProgramme();
        CinemaProgramme films = new CinemaProgramme();
        CinemaProgramme trailers = new CinemaProgramme();
        trailers.addFilm(30, 0, 1, 1, 0);
        for (int k = 0; k < 10; k++) {
            if (k < 6) {
                halls.addHall(10 + k, k, 0);
            }
            if (k < 8) {
                films.addFilm(30 + k, 0, 1, 1, k);
            }
            trailers.addTrailer(0, 1, 0, 1 + k);
        }
        full("a seventh hall", halls, x -> x.addHall(400, 40, 2));
        full("a ninth film", films, x -> x.addFilm(240, 3, 63, 3, 59));
        full("an eleventh trailer", trailers, x -> x.addTrailer(0, 6, 3, 63));
        check.due("the latest change is the sixth hall", 5, () -> halls.undo());
        check.due("the halls then", 5, () -> halls.account(0));
        check.due("the latest change is the eighth film", 7, () -> films.undo());
        check.due("the films then", 7, () -> films.account(1));
        check.due("the latest change is the tenth trailer", 7, () -> trailers.undo());
        check.due("the trailers then", 9, () -> trailers.account(2));
        CinemaProgramme x = new CinemaProgramme();
        CinemaProgramme y = new CinemaProgramme();
        thirtyShows(x);
        thirtyShows(y);
        check.fails("a show too many", Check.REFUSED, () -> x.plan(0, 0, 30, 5));
        check.same("the state after a show too many", View.state(y), View.state(x));
        check.due("the latest change is the thirtieth show", 7, () -> x.undo());
        check.due("the shows then", 29, () -> x.account(3));
    }

    private static void thirtyShows(CinemaProgramme x) {
        x.addHall(100, 0, 0);
        x.addFilm(30, 0, 1, 3, 0);
        for (int show = 0; show < 30; show++) {
            x.plan(0, 0, show, show);
        }
    }
}
