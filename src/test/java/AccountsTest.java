/** Promises 9, 10 and 25 to 31: sums over shows, halls on a day, minutes of a day, accounts and days. */
final class AccountsTest {
    private final Check check = new Check("AccountsTest");

    private AccountsTest() {
    }

    public static void main(String[] args) {
        AccountsTest test = new AccountsTest();
        test.sums();
        test.partsOneByOne();
        test.usedHall();
        test.minutesOfDay();
        test.reasons();
        test.days();
        test.bestFilms();
        test.useOfSeats();
        test.check.end();
    }

    /** Two halls, two films, and three shows that stay: 0 in hall 0, 2 and 3 in hall 1; 1 is cancelled. */
    private static CinemaProgramme cinema() {
        CinemaProgramme x = new CinemaProgramme();
        x.addHall(100, 20, 0);
        x.addHall(50, 40, 1);
        x.addFilm(100, 0, 1, 3, 0);
        x.addFilm(60, 0, 1, 3, 0);
        x.plan(0, 0, 7, 100);
        x.plan(0, 0, 7, 300);
        x.plan(1, 1, 7, 150);
        x.plan(1, 0, 14, 850);
        x.sell(0, 33);
        x.sell(1, 20);
        x.sell(2, 7);
        x.sell(3, 1);
        x.cancel(1);
        return x;
    }

    private void sums() {
        CinemaProgramme x = cinema();
        int[] accounts = {2, 2, 0, 4, 1, 41, 410, 165 + 35 + 4, 410 - 204, 20, 260, 0};
        for (int what = 0; what < accounts.length; what++) {
            int asked = what;
            check.due("account(" + what + ")", accounts[what], () -> x.account(asked));
        }
        check.fails("account(12)", Check.ARGUMENT, () -> x.account(12));
        check.fails("account(-1)", Check.ARGUMENT, () -> x.account(-1));
        int[][] halls = {{1, 100, 33}, {2, 160, 8}};
        int[][] films = {{2, 34, 340, 169}, {1, 7, 70, 35}};
        for (int k = 0; k < 2; k++) {
            int number = k;
            for (int what = 4; what <= 6; what++) {
                int asked = what;
                check.due("hall(" + k + ", " + what + ")", halls[k][what - 4], () -> x.hall(number, asked));
            }
            for (int what = 5; what <= 8; what++) {
                int asked = what;
                check.due("film(" + k + ", " + what + ")", films[k][what - 5], () -> x.film(number, asked));
            }
        }
        x.advance(10);
        check.due("shows that are over count", 41, () -> x.account(5));
        check.due("today", 10, () -> x.account(11));
        x.addTrailer(0, 1, 0, 1);
        check.due("the trailers", 1, () -> x.account(2));
    }

    private void partsOneByOne() {
        CinemaProgramme x = new CinemaProgramme();
        x.addHall(100, 0, 0);
        x.addFilm(30, 0, 1, 3, 0);
        x.setShares(0, 55, 0, 0);
        x.set(5, 1);
        for (int start = 0; start < 3; start++) {
            x.plan(0, 0, 0, 100 * start);
            x.sell(start, 1 + start);
        }
        check.due("0.55, 1.1 and 1.65, each rounded down", 2, () -> x.film(0, 8));
        check.due("the same as an account", 2, () -> x.account(7));
        check.due("what is left", 4, () -> x.account(8));
        x.setShares(0, 100, 50, 0);
        check.due("shares of later count", 6, () -> x.account(7));
    }

    private void usedHall() {
        CinemaProgramme x = cinema();
        int[][] due = {{0, 7, 100, 20, 840, 100, 200}, {1, 7, 60, 40, 860, 150, 210}, {1, 14, 100, 10, 850, 850, 950},
            {0, 14, 0, 0, 960, -1, -1}, {0, 59, 0, 0, 960, -1, -1}};
        for (int[] row : due) {
            for (int what = 0; what <= 4; what++) {
                int asked = what;
                check.due("used(" + row[0] + ", " + row[1] + ", " + what + ")", row[what + 2],
                        () -> x.used(row[0], row[1], asked));
            }
        }
        x.plan(0, 1, 7, 900);
        x.plan(0, 1, 7, 20);
        check.due("three shows", 220, () -> x.used(0, 7, 0));
        check.due("cleaning that the day ends", 40, () -> x.used(0, 7, 1));
        check.due("neither", 700, () -> x.used(0, 7, 2));
        check.due("the first start", 20, () -> x.used(0, 7, 3));
        check.due("the greatest end", 960, () -> x.used(0, 7, 4));
        check.fails("used(2, 60, 0)", Check.INDEX, () -> x.used(2, 60, 0));
        check.fails("used(-1, 0, 0)", Check.INDEX, () -> x.used(-1, 0, 0));
        check.fails("used(0, 60, 0)", Check.ARGUMENT, () -> x.used(0, 60, 0));
        check.fails("used(0, -1, 0)", Check.ARGUMENT, () -> x.used(0, -1, 0));
        check.fails("used(0, 0, 5)", Check.ARGUMENT, () -> x.used(0, 0, 5));
        check.fails("used(0, 0, -1)", Check.ARGUMENT, () -> x.used(0, 0, -1));
    }

    private void minutesOfDay() {
        CinemaProgramme x = cinema();
        int[][] due = {{7, 99, 0, 0, 0, -1}, {7, 100, 1, 0, 100, 0}, {7, 149, 1, 0, 100, 0}, {7, 150, 2, 0, 150, 0},
            {7, 199, 2, 0, 150, 0}, {7, 200, 1, 1, 50, 2}, {7, 209, 1, 1, 50, 2}, {7, 210, 0, 2, 0, -1},
            {7, 219, 0, 2, 0, -1}, {7, 220, 0, 1, 0, -1}, {7, 249, 0, 1, 0, -1}, {7, 250, 0, 0, 0, -1},
            {7, 300, 0, 0, 0, -1}, {14, 949, 1, 0, 50, 3}, {14, 989, 0, 1, 0, -1}, {14, 990, 0, 0, 0, -1},
            {8, 150, 0, 0, 0, -1}, {14, 1200, 0, 0, 0, -1}};
        for (int[] row : due) {
            for (int what = 0; what <= 3; what++) {
                int asked = what;
                check.due("at(" + row[0] + ", " + row[1] + ", " + what + ")", row[what + 2],
                        () -> x.at(row[0], row[1], asked));
            }
        }
        int[][] wrong = {{-1, 0, 0}, {60, 0, 0}, {0, -1, 0}, {0, 1201, 0}, {0, 0, -1}, {0, 0, 4}};
        for (int[] row : wrong) {
            check.fails("at" + java.util.Arrays.toString(row), Check.ARGUMENT, () -> x.at(row[0], row[1], row[2]));
        }
    }

    private void reasons() {
        CinemaProgramme x = cinema();
        check.fails("refusal ahead of one", Check.NO_ELEMENT, () -> x.refusal(true));
        check.fails("a plan that is refused", Check.REFUSED, () -> x.plan(0, 0, 7, 100));
        check.fails("a call that is wrong but not refused", Check.ARGUMENT, () -> x.plan(0, 0, 60, 100));
        check.fails("another one", Check.STATE, () -> x.cancel(1));
        x.undo();
        x.save();
        x.restore();
        check.due("the reason stays", 6, () -> x.refusal(false));
        check.due("its detail stays", 0, () -> x.refusal(true));
        check.fails("another refusal", Check.REFUSED, () -> x.sell(0, 400));
        check.due("the latest reason", 12, () -> x.refusal(false));
        check.due("its detail", 67, () -> x.refusal(true));
    }

    private void days() {
        CinemaProgramme x = new CinemaProgramme();
        check.fails("advance(0)", Check.ARGUMENT, () -> x.advance(0));
        check.fails("advance(-1)", Check.ARGUMENT, () -> x.advance(-1));
        check.fails("advance(31)", Check.ARGUMENT, () -> x.advance(31));
        check.fails("advance(most of all)", Check.ARGUMENT, () -> x.advance(Integer.MAX_VALUE));
        check.due("advance(1)", 1, () -> x.advance(1));
        check.due("advance(30)", 31, () -> x.advance(30));
        check.fails("advance(29)", Check.ARGUMENT, () -> x.advance(29));
        check.due("today", 31, () -> x.account(11));
        check.due("advance(28)", 59, () -> x.advance(28));
        check.fails("advance(1) on the last day", Check.ARGUMENT, () -> x.advance(1));
    }

    private void bestFilms() {
        CinemaProgramme x = new CinemaProgramme();
        x.addHall(100, 0, 0);
        check.fails("bestFilm without films", Check.NO_ELEMENT, () -> x.bestFilm());
        for (int film = 0; film < 3; film++) {
            x.addFilm(30, 0, 1, 1, 0);
        }
        check.due("no tickets at all", 0, () -> x.bestFilm());
        x.plan(0, 2, 0, 0);
        x.plan(0, 1, 0, 100);
        x.plan(0, 1, 0, 200);
        x.sell(0, 5);
        check.due("the only one with tickets", 2, () -> x.bestFilm());
        x.sell(1, 2);
        x.sell(2, 3);
        check.due("the lowest of two", 1, () -> x.bestFilm());
        x.cancel(2);
        check.due("cancelled shows do not count", 2, () -> x.bestFilm());
        x.cancel(1);
        x.cancel(0);
        check.due("no tickets any more", 0, () -> x.bestFilm());
    }

    private void useOfSeats() {
        CinemaProgramme x = new CinemaProgramme();
        x.addHall(100, 0, 0);
        x.addHall(7, 0, 1);
        x.addFilm(30, 0, 1, 3, 0);
        check.fails("use without shows", Check.ARITHMETIC, () -> (long) x.use());
        x.plan(0, 0, 0, 0);
        check.same("use without tickets", "0.0", Double.toString(x.use()));
        x.plan(1, 0, 0, 0);
        x.plan(1, 0, 0, 100);
        x.sell(0, 30);
        x.sell(1, 7);
        check.same("use of three shows", Double.toString(37.0 / 114.0), Double.toString(x.use()));
        x.cancel(0);
        check.same("use of two shows", "0.5", Double.toString(x.use()));
        x.cancel(1);
        x.cancel(2);
        check.fails("use with cancelled shows only", Check.ARITHMETIC, () -> (long) x.use());
    }
}
