import java.util.ArrayList;
import java.util.List;

/** The paragraph on history and the promises 37 to 39, at their edges. */
final class HistoryEdgesTest {
    private final Check check = new Check("HistoryEdgesTest");

    private HistoryEdgesTest() {
    }

    public static void main(String[] args) {
        HistoryEdgesTest test = new HistoryEdgesTest();
        test.eachKindIsAChange();
        test.changesWithoutADifference();
        test.whatIsNoChange();
        test.atMostEight();
        test.latestFirst();
        test.noRedo();
        test.everythingIsUndone();
        test.restoreIsFinal();
        test.saved();
        test.savedFromAll();
        test.whatIsNotConcerned();
        test.linesBelongToIt();
        test.numbersAreGivenAgain();
        test.check.end();
    }

    /** Two halls, two films, a trailer, and show 0 with ten tickets, all of them final. */
    private static CinemaProgramme cinema() {
        CinemaProgramme x = new CinemaProgramme();
        x.addHall(100, 0, 0);
        x.addHall(50, 0, 1);
        x.addFilm(60, 0, 1, 2, 0);
        x.addFilm(30, 0, 1, 2, 50);
        x.addTrailer(1, 3, 0, 1);
        x.plan(0, 0, 3, 100);
        x.sell(0, 10);
        x.save();
        x.restore();
        return x;
    }

    private static long text(CinemaProgramme x, String text) {
        Check.type(x, text);
        return x.perform();
    }

    private static List<Check.CinemaCall> changes() {
        List<Check.CinemaCall> changes = new ArrayList<>();
        changes.add(x -> x.addHall(400, 40, 2));
        changes.add(x -> x.addFilm(240, 3, 63, 3, 59));
        changes.add(x -> x.addTrailer(0, 6, 3, 63));
        changes.add(x -> x.set(2, 60));
        changes.add(x -> x.setLimit(15, 0));
        changes.add(x -> x.setShares(0, 100, 50, 1));
        changes.add(x -> x.plan(1, 0, 3, 300));
        changes.add(x -> x.move(0, 1, 50));
        changes.add(x -> x.cancel(0));
        changes.add(x -> x.sell(0, 90));
        changes.add(x -> x.fail(0, 3));
        changes.add(x -> {
            x.fail(1, 0);
            x.save();
            x.restore();
            return x.reopen(1);
        });
        changes.add(x -> x.advance(30));
        changes.add(x -> text(x, "plan 1 0 3 300;sell 1 50;drop 0;fail 0 3;days 3"));
        return changes;
    }

    private void eachKindIsAChange() {
        List<Check.CinemaCall> changes = changes();
        for (int k = 0; k < changes.size(); k++) {
            CinemaProgramme x = cinema();
            CinemaProgramme y = cinema();
            String what = "the change " + k;
            check.fails("undo ahead of " + what, Check.STATE, () -> x.undo());
            changes.get(k).answer(x);
            if (k == 11) {
                y.fail(1, 0);
            }
            check.due("undo of " + what, 0, () -> x.undo());
            check.same("the state after undo of " + what, View.state(y), View.state(x));
            check.fails("undo of what is ahead of " + what, Check.STATE, () -> x.undo());
        }
        check.due("the kinds of changes", 14, () -> changes.size());
    }

    /** Also if nothing is different then. */
    private void changesWithoutADifference() {
        CinemaProgramme x = cinema();
        String state = View.state(x);
        x.set(0, 10);
        x.setLimit(0, 3);
        x.setShares(0, 60, 10, 20);
        x.move(0, 0, 100);
        check.same("the state after changes without a difference", state, View.state(x));
        for (int left = 3; left >= 0; left--) {
            int due = left;
            check.due("undo of a change without a difference", due, () -> x.undo());
        }
        check.same("the state after undo", state, View.state(x));
    }

    private void whatIsNoChange() {
        CinemaProgramme x = cinema();
        x.advance(1);
        x.save();
        x.write(0, 3);
        x.append('x');
        x.why(0, 0, 3, 0, true);
        x.firstStart(0, 0, 3, 0);
        x.reel(0, 3, true);
        check.fails("a text that is none", Check.ARGUMENT, () -> x.perform());
        check.fails("a plan that is refused", Check.REFUSED, () -> x.plan(0, 0, 3, 100));
        check.fails("a wrong change", Check.ARGUMENT, () -> x.set(0, 31));
        check.fails("a failure of no hall", Check.INDEX, () -> x.fail(2, 3));
        check.due("undo of the only change", 0, () -> x.undo());
        check.due("today", 0, () -> x.account(11));
        check.fails("undo", Check.STATE, () -> x.undo());
    }

    private void atMostEight() {
        for (int changes = 1; changes <= 20; changes++) {
            CinemaProgramme x = cinema();
            for (int k = 0; k < changes; k++) {
                x.advance(1);
            }
            int most = Math.min(changes, 8);
            for (int left = most - 1; left >= 0; left--) {
                int due = left;
                int today = changes - most + left;
                check.due("undo after changes: " + changes, due, () -> x.undo());
                check.due("today then", today, () -> x.account(11));
            }
            check.fails("older ones are forgotten for good", Check.STATE, () -> x.undo());
            check.due("today then", changes - most, () -> x.account(11));
        }
    }

    private void latestFirst() {
        CinemaProgramme x = cinema();
        x.set(5, 20);
        x.plan(0, 0, 3, 300);
        x.set(5, 30);
        x.plan(0, 0, 3, 500);
        check.due("the price of the latest show", 30, () -> x.show(2, 7));
        check.due("undo of the latest show", 3, () -> x.undo());
        check.due("the shows", 2, () -> x.account(3));
        check.due("the price", 30, () -> x.setting(5));
        check.due("undo of the latest price", 2, () -> x.undo());
        check.due("the price", 20, () -> x.setting(5));
        check.due("the shows", 2, () -> x.account(3));
        check.due("undo of the show", 1, () -> x.undo());
        check.due("the shows", 1, () -> x.account(3));
        check.due("undo of the price", 0, () -> x.undo());
        check.due("the price", 10, () -> x.setting(5));
    }

    /** An undo is no change: the next one undoes what came ahead of the change that was undone. */
    private void noRedo() {
        CinemaProgramme x = cinema();
        for (int k = 0; k < 12; k++) {
            x.advance(1);
        }
        x.undo();
        x.undo();
        x.undo();
        check.due("today", 9, () -> x.account(11));
        x.advance(20);
        x.advance(1);
        check.due("undo of a change behind undone ones", 6, () -> x.undo());
        check.due("today", 29, () -> x.account(11));
        check.due("undo of the one ahead", 5, () -> x.undo());
        check.due("today", 9, () -> x.account(11));
        check.due("undo of the one ahead of the undone ones", 4, () -> x.undo());
        check.due("today", 8, () -> x.account(11));
        for (int left = 3; left >= 0; left--) {
            int due = left;
            check.due("undo", due, () -> x.undo());
        }
        check.due("the oldest change that was kept", 4, () -> x.account(11));
        check.fails("undo", Check.STATE, () -> x.undo());
    }

    /** Undo concerns everything: of several changes in a row, each state ahead of one comes back as it was. */
    private void everythingIsUndone() {
        for (int first = 0; first < 14; first++) {
            int made = inARow(cinema(), first, 8);
            check.due("some changes in a row are made", 1, () -> Check.flag(made >= 4));
            for (int kept = 0; kept < made; kept++) {
                CinemaProgramme x = cinema();
                CinemaProgramme y = cinema();
                inARow(x, first, made);
                inARow(y, first, kept);
                for (int left = made - 1; left >= kept; left--) {
                    int due = left;
                    check.due("undo down to " + kept, due, () -> x.undo());
                }
                check.same("the state with changes: " + kept, View.state(y), View.state(x));
            }
        }
    }

    /** Makes at most so many changes of eight kinds, leaving out the one that restores; returns how many were made. */
    private static int inARow(CinemaProgramme x, int first, int most) {
        List<Check.CinemaCall> changes = changes();
        int made = 0;
        for (int k = 0; k < 8; k++) {
            int kind = (first + k * 3) % changes.size();
            if (made < most && kind != 11 && isDone(changes.get(kind), x)) {
                made++;
            }
        }
        return made;
    }

    private static boolean isDone(Check.CinemaCall change, CinemaProgramme x) {
        try {
            change.answer(x);
            return true;
        } catch (RuntimeException e) {
            return false;
        }
    }

    private void restoreIsFinal() {
        CinemaProgramme x = cinema();
        check.fails("undo after restore", Check.STATE, () -> x.undo());
        x.advance(1);
        x.advance(1);
        check.due("restore", 1, () -> x.restore());
        check.fails("undo of changes ahead of restore", Check.STATE, () -> x.undo());
        check.due("today", 0, () -> x.account(11));
        x.advance(3);
        check.due("undo of a change behind restore", 0, () -> x.undo());
        check.fails("undo of restore", Check.STATE, () -> x.undo());
        for (int k = 0; k < 9; k++) {
            x.advance(1);
        }
        x.restore();
        x.advance(2);
        check.due("undo of the only change since", 0, () -> x.undo());
        check.due("today", 0, () -> x.account(11));
    }

    private void saved() {
        CinemaProgramme x = new CinemaProgramme();
        check.fails("restore without saving", Check.STATE, () -> x.restore());
        check.due("save of an empty programme", 0, () -> x.save());
        x.addHall(10, 0, 0);
        x.addFilm(30, 0, 1, 1, 0);
        x.plan(0, 0, 0, 0);
        x.cancel(0);
        check.due("restore of an empty programme", 0, () -> x.restore());
        check.due("the halls", 0, () -> x.account(0));
        x.addHall(20, 0, 0);
        x.addFilm(30, 0, 1, 1, 0);
        x.plan(0, 0, 0, 0);
        x.plan(0, 0, 0, 100);
        x.cancel(0);
        check.due("save counts cancelled shows", 2, () -> x.save());
        check.due("undo after save", 4, () -> x.undo());
        check.due("undo does not undo saving", 3, () -> x.undo());
        check.due("restore brings back what was undone", 2, () -> x.restore());
        check.due("the cancelled show", 1, () -> x.show(0, 8));
        x.plan(0, 0, 0, 200);
        check.due("what was restored stays saved", 2, () -> x.restore());
        check.due("again", 2, () -> x.restore());
        check.due("the seats", 20, () -> x.hall(0, 0));
        x.plan(0, 0, 0, 300);
        check.due("save in place of what was saved", 3, () -> x.save());
        x.undo();
        check.due("restore of the latest saving", 3, () -> x.restore());
        check.due("its start", 300, () -> x.show(2, 3));
    }

    private void savedFromAll() {
        List<Check.CinemaCall> changes = changes();
        for (int k = 0; k < changes.size(); k++) {
            CinemaProgramme x = cinema();
            x.fail(1, 20);
            x.save();
            String state = View.state(x);
            if (k != 11) {
                changes.get(k).answer(x);
                check.due("restore after change " + k, 1, () -> x.restore());
                check.same("the state after restore of change " + k, state, View.state(x));
            }
        }
        for (int k = 0; k < changes.size() - 1; k++) {
            CinemaProgramme x = cinema();
            changes.get(k).answer(x);
            String state = View.state(x);
            int shows = x.account(3);
            check.due("save of change " + k, shows, () -> x.save());
            if (k != 11) {
                x.undo();
                check.due("restore of change " + k, shows, () -> x.restore());
                check.same("the state with change " + k, state, View.state(x));
            }
        }
    }

    private void whatIsNotConcerned() {
        CinemaProgramme x = cinema();
        x.save();
        x.advance(1);
        x.write(0, 3);
        Check.type(x, "days 1x");
        check.fails("a wrong text", Check.ARGUMENT, () -> x.perform());
        check.fails("a refusal", Check.REFUSED, () -> x.sell(0, 91));
        Check.type(x, "days 30");
        x.undo();
        String kept = "written 100-163 f0 10/100\nreason 12 90\nerror position 6";
        check.same("what is kept after undo", kept, View.rest(x));
        x.restore();
        check.same("what is kept after restore", kept, View.rest(x));
        check.due("the input after both", 1, () -> x.perform());
        check.due("today", 30, () -> x.account(11));
        x.write(1, 3);
        x.save();
        check.same("what is kept after save", "written none\nreason 12 90\nerror position 6", View.rest(x));
    }

    private void linesBelongToIt() {
        CinemaProgramme x = cinema();
        x.fail(0, 3);
        check.due("the line", 0, () -> x.line(0, 0));
        x.undo();
        check.fails("the line after undo", Check.NO_ELEMENT, () -> x.line(0, 0));
        x.fail(0, 3);
        x.save();
        x.fail(1, 3);
        check.due("the line of the latest failure", -1, () -> x.line(0, 2));
        x.undo();
        check.due("the line of the failure ahead", 1, () -> x.line(0, 2));
        x.undo();
        check.fails("the line after undo", Check.NO_ELEMENT, () -> x.line(0, 0));
        x.restore();
        check.due("the line after restore", 1, () -> x.line(0, 2));
    }

    /** What is undone leaves nothing behind: the next hall, film, trailer and show are as new. */
    private void numbersAreGivenAgain() {
        CinemaProgramme x = cinema();
        x.addHall(400, 40, 2);
        x.fail(2, 0);
        x.undo();
        x.undo();
        check.due("the number of a hall", 2, () -> x.addHall(7, 1, 1));
        int[] hall = {7, 1, 1, -1, 0, 0, 0};
        x.addFilm(240, 3, 63, 3, 9);
        x.setShares(2, 1, 1, 1);
        x.undo();
        x.undo();
        check.due("the number of a film", 2, () -> x.addFilm(31, 1, 2, 1, 8));
        int[] film = {31, 1, 2, 1, 8, 0, 0, 0, 0, 60, 10, 20};
        x.addTrailer(0, 6, 3, 63);
        x.undo();
        check.due("the number of a trailer", 1, () -> x.addTrailer(2, 2, 1, 4));
        int[] trailer = {2, 2, 1, 4};
        x.plan(1, 0, 9, 400);
        x.sell(1, 5);
        x.cancel(1);
        x.undo();
        x.undo();
        x.undo();
        check.due("the number of a show", 1, () -> x.plan(0, 1, 50, 2));
        int[] show = {0, 1, 50, 2, 32, 0, 0, 10, 0, 0, 0, 0};
        for (int k = 0; k < 12; k++) {
            int what = k;
            check.due("film(2, " + k + ")", film[k], () -> x.film(2, what));
            check.due("show(1, " + k + ")", show[k], () -> x.show(1, what));
            if (k < hall.length) {
                check.due("hall(2, " + k + ")", hall[k], () -> x.hall(2, what));
            }
            if (k < trailer.length) {
                check.due("trailer(1, " + k + ")", trailer[k], () -> x.trailer(1, what));
            }
        }
        check.due("the tickets given back", 0, () -> x.account(9));
    }
}
