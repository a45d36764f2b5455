/** Promises 15, 20 and 21, and the reasons of promise 27: the rules for a new show. */
final class RulesTest {
    private final Check check = new Check("RulesTest");

    private RulesTest() {
    }

    public static void main(String[] args) {
        RulesTest test = new RulesTest();
        test.wrongCalls();
        test.daysAndLimits();
        test.endOfDay();
        test.sameHall();
        test.noCleaning();
        test.prints();
        test.carrying();
        test.exits();
        test.crews();
        test.orderOfRules();
        test.fullProgramme();
        test.reelAndPriceOfThen();
        test.firstStarts();
        test.check.end();
    }

    /** The rule must be the due one with the due detail, told by why and by a plan that is refused. */
    private void breaks(CinemaProgramme x, int rule, int detail, int hall, int film, int day, int start) {
        String place = "(" + hall + ", " + film + ", " + day + ", " + start + ")";
        check.due("why" + place, rule, () -> x.why(hall, film, day, start, false));
        check.due("the detail of why" + place, detail, () -> x.why(hall, film, day, start, true));
        if (rule != 0) {
            int shows = x.account(3);
            check.fails("plan" + place, Check.REFUSED, () -> x.plan(hall, film, day, start));
            check.due("the reason of plan" + place, rule, () -> x.refusal(false));
            check.due("the detail of plan" + place, detail, () -> x.refusal(true));
            check.due("the shows after plan" + place, shows, () -> x.account(3));
        }
    }

    private void keeps(CinemaProgramme x, int hall, int film, int day, int start) {
        breaks(x, 0, -1, hall, film, day, start);
    }

    private void wrongCalls() {
        CinemaProgramme x = new CinemaProgramme();
        x.addHall(10, 0, 0);
        check.fails("plan without films", Check.INDEX, () -> x.plan(0, 0, 0, 0));
        x.addFilm(100, 0, 1, 1, 5);
        int[][] indices = {{-1, 0, 0, 0}, {1, 0, 60, 960}, {0, -1, 0, 0}, {0, 1, 0, -1}};
        int[][] arguments = {{0, 0, -1, 0}, {0, 0, 60, 0}, {0, 0, 0, -1}, {0, 0, 0, 960},
            {0, 0, 0, Integer.MAX_VALUE}, {0, 0, Integer.MIN_VALUE, 0}};
        for (int[] row : indices) {
            check.fails("plan", Check.INDEX, () -> x.plan(row[0], row[1], row[2], row[3]));
            check.fails("why", Check.INDEX, () -> x.why(row[0], row[1], row[2], row[3], true));
            check.fails("firstStart", Check.INDEX, () -> x.firstStart(row[0], row[1], row[2], row[3]));
        }
        for (int[] row : arguments) {
            check.fails("plan", Check.ARGUMENT, () -> x.plan(row[0], row[1], row[2], row[3]));
            check.fails("why", Check.ARGUMENT, () -> x.why(row[0], row[1], row[2], row[3], false));
            check.fails("firstStart", Check.ARGUMENT, () -> x.firstStart(row[0], row[1], row[2], row[3]));
        }
        check.fails("refusal after wrong calls", Check.NO_ELEMENT, () -> x.refusal(false));
        check.due("why of a broken rule", 3, () -> x.why(0, 0, 0, 0, false));
        check.fails("refusal after why", Check.NO_ELEMENT, () -> x.refusal(false));
        check.fails("firstStart before the release", Check.NO_ELEMENT, () -> x.firstStart(0, 0, 4, 0));
        check.fails("refusal after firstStart", Check.NO_ELEMENT, () -> x.refusal(true));
    }

    private void daysAndLimits() {
        CinemaProgramme x = new CinemaProgramme();
        x.addHall(10, 0, 0);
        x.addHall(10, 0, 1);
        x.addFilm(100, 2, 1, 1, 0);
        x.addFilm(100, 0, 1, 1, 10);
        x.advance(3);
        breaks(x, 1, 3, 0, 0, 2, 0);
        keeps(x, 0, 0, 3, 0);
        x.fail(1, 7);
        keeps(x, 1, 0, 6, 0);
        breaks(x, 2, 1, 1, 0, 7, 0);
        breaks(x, 2, 1, 1, 0, 59, 0);
        keeps(x, 0, 0, 7, 0);
        breaks(x, 3, 10, 0, 1, 9, 0);
        keeps(x, 0, 1, 10, 0);
        x.setLimit(2, 1);
        x.setLimit(15, 0);
        keeps(x, 0, 0, 3, 119);
        breaks(x, 4, 1, 0, 0, 3, 120);
        breaks(x, 4, 1, 0, 0, 3, 179);
        keeps(x, 0, 0, 3, 180);
        breaks(x, 4, 0, 0, 0, 3, 959);
        x.setLimit(2, 2);
        keeps(x, 0, 0, 3, 120);
    }

    private void endOfDay() {
        CinemaProgramme x = new CinemaProgramme();
        x.addHall(10, 40, 0);
        x.addFilm(100, 0, 1, 1, 0);
        x.addFilm(30, 0, 1, 1, 59);
        keeps(x, 0, 0, 0, 860);
        breaks(x, 5, 961, 0, 0, 0, 861);
        breaks(x, 5, 1059, 0, 0, 0, 959);
        x.addTrailer(1, 6, 0, 1);
        keeps(x, 0, 0, 0, 854);
        breaks(x, 5, 961, 0, 0, 0, 855);
    }

    private void sameHall() {
        CinemaProgramme x = new CinemaProgramme();
        x.addHall(10, 20, 0);
        x.addHall(10, 20, 0);
        x.addFilm(100, 0, 1, 3, 0);
        x.addFilm(50, 0, 1, 3, 0);
        x.set(0, 0);
        x.plan(0, 0, 1, 300);
        x.plan(0, 0, 1, 100);
        keeps(x, 0, 1, 1, 220);
        breaks(x, 6, 1, 0, 1, 1, 219);
        keeps(x, 0, 1, 1, 230);
        breaks(x, 6, 0, 0, 1, 1, 231);
        keeps(x, 0, 1, 1, 30);
        breaks(x, 6, 1, 0, 1, 1, 31);
        breaks(x, 6, 0, 0, 0, 1, 210);
        breaks(x, 6, 1, 0, 1, 1, 120);
        keeps(x, 0, 1, 2, 120);
        keeps(x, 1, 1, 1, 120);
        x.cancel(1);
        keeps(x, 0, 1, 1, 120);
        check.due("a show that begins as the cleaning ends", 2, () -> x.plan(0, 0, 1, 420));
        check.due("a show whose cleaning ends as another begins", 3, () -> x.plan(0, 1, 1, 230));
    }

    private void noCleaning() {
        CinemaProgramme x = new CinemaProgramme();
        x.addHall(10, 0, 0);
        x.addFilm(100, 0, 1, 3, 0);
        x.set(1, 1);
        x.set(0, 0);
        x.plan(0, 0, 0, 100);
        keeps(x, 0, 0, 0, 200);
        keeps(x, 0, 0, 0, 0);
        breaks(x, 6, 0, 0, 0, 0, 199);
        breaks(x, 6, 0, 0, 0, 0, 1);
    }

    private void prints() {
        CinemaProgramme x = new CinemaProgramme();
        for (int hall = 0; hall < 4; hall++) {
            x.addHall(10, 0, 0);
        }
        x.addFilm(100, 0, 1, 2, 0);
        x.addFilm(100, 0, 1, 1, 0);
        x.set(0, 0);
        x.set(2, 10);
        x.plan(0, 0, 0, 200);
        keeps(x, 1, 0, 0, 200);
        x.plan(1, 0, 0, 250);
        breaks(x, 7, 250, 2, 0, 0, 200);
        breaks(x, 7, 260, 2, 0, 0, 260);
        breaks(x, 7, 250, 2, 0, 0, 141);
        keeps(x, 2, 0, 0, 140);
        breaks(x, 7, 309, 2, 0, 0, 309);
        keeps(x, 2, 0, 0, 310);
        keeps(x, 2, 1, 0, 250);
        keeps(x, 2, 0, 1, 250);
        x.plan(3, 0, 0, 310);
        breaks(x, 7, 310, 2, 0, 0, 310);
        x.cancel(0);
        keeps(x, 2, 0, 0, 140);
        keeps(x, 2, 0, 0, 200);
        breaks(x, 7, 310, 2, 0, 0, 201);
        breaks(x, 7, 310, 2, 0, 0, 260);
    }

    private void carrying() {
        CinemaProgramme x = new CinemaProgramme();
        x.addHall(10, 0, 0);
        x.addHall(10, 0, 1);
        x.addFilm(100, 0, 1, 1, 0);
        x.plan(0, 0, 0, 200);
        breaks(x, 7, 314, 1, 0, 0, 314);
        keeps(x, 1, 0, 0, 315);
        breaks(x, 7, 200, 1, 0, 0, 86);
        keeps(x, 1, 0, 0, 85);
        x.set(2, 0);
        keeps(x, 1, 0, 0, 300);
        breaks(x, 7, 299, 1, 0, 0, 299);
        keeps(x, 1, 0, 0, 100);
        breaks(x, 7, 200, 1, 0, 0, 101);
        x.set(2, 60);
        breaks(x, 7, 359, 1, 0, 0, 359);
        keeps(x, 1, 0, 0, 360);
        breaks(x, 7, 359, 0, 0, 0, 359);
        keeps(x, 1, 0, 0, 860);
    }

    private void exits() {
        CinemaProgramme x = new CinemaProgramme();
        x.addHall(10, 0, 1);
        x.addHall(10, 0, 1);
        x.addHall(10, 0, 2);
        x.addFilm(100, 0, 1, 3, 0);
        x.addFilm(30, 0, 1, 3, 0);
        x.plan(0, 0, 0, 300);
        breaks(x, 8, 0, 1, 0, 0, 309);
        keeps(x, 1, 0, 0, 310);
        breaks(x, 8, 0, 1, 0, 0, 291);
        keeps(x, 1, 0, 0, 290);
        keeps(x, 2, 0, 0, 300);
        keeps(x, 1, 0, 1, 300);
        x.plan(1, 0, 0, 315);
        x.plan(0, 1, 0, 420);
        x.set(0, 0);
        x.addHall(10, 0, 1);
        keeps(x, 3, 1, 0, 370);
        x.set(0, 1);
        breaks(x, 8, 0, 3, 1, 0, 370);
        keeps(x, 3, 1, 0, 371);
        x.set(0, 30);
        breaks(x, 8, 0, 3, 1, 0, 377);
        breaks(x, 8, 0, 3, 1, 0, 399);
        breaks(x, 8, 1, 3, 1, 0, 400);
        x.cancel(0);
        breaks(x, 8, 1, 3, 1, 0, 377);
        keeps(x, 3, 1, 0, 340);
    }

    private void crews() {
        CinemaProgramme x = new CinemaProgramme();
        x.addHall(10, 40, 0);
        x.addHall(10, 20, 1);
        x.addHall(10, 30, 2);
        x.addHall(10, 0, 2);
        x.addFilm(100, 0, 1, 3, 0);
        x.addFilm(60, 0, 1, 3, 0);
        x.set(0, 0);
        x.plan(0, 0, 0, 100);
        keeps(x, 1, 0, 0, 110);
        x.plan(1, 0, 0, 110);
        breaks(x, 9, 210, 2, 0, 0, 81);
        keeps(x, 2, 0, 0, 80);
        breaks(x, 9, 210, 2, 0, 0, 110);
        breaks(x, 9, 229, 2, 0, 0, 129);
        keeps(x, 2, 0, 0, 130);
        keeps(x, 3, 0, 0, 110);
        x.set(1, 1);
        breaks(x, 9, 200, 2, 0, 0, 71);
        keeps(x, 2, 0, 0, 70);
        breaks(x, 9, 239, 2, 0, 0, 139);
        keeps(x, 2, 0, 0, 140);
        keeps(x, 3, 0, 0, 110);
        keeps(x, 2, 1, 1, 140);
        x.set(1, 3);
        keeps(x, 2, 0, 0, 110);
        x.set(1, 1);
        x.plan(0, 1, 2, 890);
        breaks(x, 9, 960, 1, 1, 2, 900);
        keeps(x, 1, 1, 2, 870);
    }

    private void orderOfRules() {
        CinemaProgramme x = new CinemaProgramme();
        x.addHall(10, 10, 0);
        x.addHall(10, 10, 0);
        x.addFilm(200, 3, 1, 1, 20);
        x.set(0, 30);
        x.set(1, 1);
        x.plan(0, 0, 20, 700);
        x.advance(5);
        x.fail(1, 5);
        x.setLimit(15, 2);
        breaks(x, 1, 5, 1, 0, 4, 959);
        breaks(x, 2, 1, 1, 0, 5, 959);
        x.reopen(1);
        breaks(x, 3, 20, 1, 0, 5, 959);
        breaks(x, 4, 2, 1, 0, 20, 900);
        x.setLimit(15, 3);
        breaks(x, 5, 1100, 0, 0, 20, 900);
        breaks(x, 6, 0, 0, 0, 20, 700);
        breaks(x, 7, 700, 1, 0, 20, 700);
        x.addFilm(200, 3, 1, 1, 20);
        breaks(x, 8, 0, 1, 1, 20, 700);
        x.set(0, 0);
        breaks(x, 9, 900, 1, 1, 20, 700);
    }

    private void fullProgramme() {
        CinemaProgramme x = new CinemaProgramme();
        x.addHall(10, 0, 0);
        x.addFilm(30, 0, 1, 3, 0);
        for (int show = 0; show < 30; show++) {
            int number = show;
            check.due("plan of show " + show, show, () -> x.plan(0, 0, number, 0));
        }
        breaks(x, 6, 29, 0, 0, 29, 0);
        check.due("why in a full programme", 0, () -> x.why(0, 0, 30, 0, false));
        check.fails("a show too many", Check.REFUSED, () -> x.plan(0, 0, 30, 0));
        check.due("the reason", 10, () -> x.refusal(false));
        check.due("its detail", 30, () -> x.refusal(true));
        x.cancel(3);
        check.fails("a show too many after one was cancelled", Check.REFUSED, () -> x.plan(0, 0, 30, 0));
        check.due("the reason", 10, () -> x.refusal(false));
        x.undo();
        x.undo();
        check.due("plan after undo", 29, () -> x.plan(0, 0, 30, 0));
    }

    private void reelAndPriceOfThen() {
        CinemaProgramme x = new CinemaProgramme();
        x.addHall(10, 0, 0);
        x.addFilm(100, 0, 1, 3, 0);
        x.addFilm(100, 0, 1, 3, 9);
        x.addTrailer(1, 4, 0, 1);
        x.plan(0, 0, 8, 100);
        x.plan(0, 0, 9, 100);
        x.addTrailer(1, 6, 0, 1);
        x.set(5, 77);
        x.plan(0, 0, 8, 300);
        int[][] due = {{0, 0, 8, 100, 204, 0, 1, 10, 0, 0, 0, 4}, {0, 0, 9, 100, 200, 0, 0, 10, 0, 0, 0, 0},
            {0, 0, 8, 300, 410, 0, 3, 77, 0, 0, 0, 10}};
        for (int show = 0; show < due.length; show++) {
            for (int what = 0; what < due[show].length; what++) {
                int asked = show;
                int part = what;
                check.due("show(" + show + ", " + what + ")", due[show][what], () -> x.show(asked, part));
            }
        }
    }

    private void firstStarts() {
        CinemaProgramme x = new CinemaProgramme();
        x.addHall(10, 20, 0);
        x.addFilm(100, 0, 1, 3, 0);
        check.due("firstStart in an empty hall", 0, () -> x.firstStart(0, 0, 0, 0));
        check.due("firstStart from 860 on", 860, () -> x.firstStart(0, 0, 0, 860));
        check.fails("firstStart from 861 on", Check.NO_ELEMENT, () -> x.firstStart(0, 0, 0, 861));
        check.fails("firstStart from 959 on", Check.NO_ELEMENT, () -> x.firstStart(0, 0, 0, 959));
        x.plan(0, 0, 0, 119);
        check.due("firstStart ahead of a show would be too early", 239, () -> x.firstStart(0, 0, 0, 0));
        check.due("firstStart behind it", 300, () -> x.firstStart(0, 0, 0, 300));
        x.plan(0, 0, 1, 120);
        check.due("firstStart ahead of a show", 0, () -> x.firstStart(0, 0, 1, 0));
        check.due("firstStart a minute later", 240, () -> x.firstStart(0, 0, 1, 1));
        for (int hour = 4; hour < 7; hour++) {
            x.setLimit(hour, 0);
        }
        x.addFilm(60, 1, 1, 1, 0);
        check.due("firstStart behind the limits", 420, () -> x.firstStart(0, 1, 1, 200));
        check.fails("firstStart on a day before today", Check.NO_ELEMENT, () -> {
            x.advance(2);
            return x.firstStart(0, 0, 1, 0);
        });
    }
}
