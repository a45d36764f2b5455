/** Promises 32 and 33: the written programme. */
final class WritingTest {
    private final Check check = new Check("WritingTest");

    private WritingTest() {
    }

    public static void main(String[] args) {
        WritingTest test = new WritingTest();
        test.programmes();
        test.closedHalls();
        test.fullDay();
        test.staysAsWritten();
        test.check.end();
    }

    private void writes(CinemaProgramme x, int hall, int day, String due) {
        check.due("write(" + hall + ", " + day + ")", due.length(), () -> x.write(hall, day));
        check.same("the programme of hall " + hall + " on day " + day, due, Check.written(x));
        check.fails("written(length)", Check.INDEX, () -> x.written(due.length()));
    }

    private void programmes() {
        CinemaProgramme x = new CinemaProgramme();
        x.addHall(100, 20, 0);
        x.addHall(9, 0, 1);
        x.addFilm(90, 0, 1, 3, 0);
        x.addFilm(30, 0, 1, 3, 0);
        x.plan(0, 0, 4, 300);
        x.plan(0, 1, 4, 0);
        x.plan(0, 1, 4, 800);
        x.plan(1, 1, 4, 5);
        x.plan(0, 1, 5, 9);
        x.sell(0, 100);
        x.sell(3, 8);
        writes(x, 0, 4, "0-30 f1 0/100, 300-390 f0 100/100, 800-830 f1 0/100");
        writes(x, 1, 4, "5-35 f1 8/9");
        writes(x, 0, 5, "9-39 f1 0/100");
        writes(x, 0, 3, "none");
        x.cancel(1);
        writes(x, 0, 4, "300-390 f0 100/100, 800-830 f1 0/100");
        x.advance(30);
        writes(x, 1, 4, "5-35 f1 8/9");
        check.fails("write(2, 60)", Check.INDEX, () -> x.write(2, 60));
        check.fails("write(-1, 0)", Check.INDEX, () -> x.write(-1, 0));
        check.fails("write(0, 60)", Check.ARGUMENT, () -> x.write(0, 60));
        check.fails("write(0, -1)", Check.ARGUMENT, () -> x.write(0, -1));
        check.same("the programme after wrong calls", "5-35 f1 8/9", Check.written(x));
        check.fails("written(-1)", Check.INDEX, () -> x.written(-1));
        check.fails("written(most of all)", Check.INDEX, () -> x.written(Integer.MAX_VALUE));
    }

    private void closedHalls() {
        CinemaProgramme x = new CinemaProgramme();
        x.addHall(100, 20, 0);
        x.addFilm(90, 0, 1, 3, 0);
        x.plan(0, 0, 4, 300);
        x.plan(0, 0, 5, 300);
        x.fail(0, 5);
        writes(x, 0, 4, "300-390 f0 0/100");
        writes(x, 0, 5, "closed: none");
        writes(x, 0, 59, "closed: none");
        x.reopen(0);
        writes(x, 0, 5, "none");
    }

    private void fullDay() {
        CinemaProgramme x = new CinemaProgramme();
        x.addHall(400, 0, 0);
        x.addFilm(30, 0, 1, 3, 0);
        x.set(2, 0);
        StringBuilder due = new StringBuilder();
        for (int show = 0; show < 30; show++) {
            x.plan(0, 0, 0, 30 * (29 - show));
            x.sell(show, 400);
            due.append(show == 0 ? "" : ", ").append(30 * show).append('-').append(30 * show + 30)
                    .append(" f0 400/400");
        }
        writes(x, 0, 0, due.toString());
    }

    private void staysAsWritten() {
        CinemaProgramme x = new CinemaProgramme();
        check.fails("written(0) of a new object", Check.INDEX, () -> x.written(0));
        x.addHall(100, 20, 0);
        x.addFilm(90, 0, 1, 3, 0);
        x.plan(0, 0, 4, 300);
        x.save();
        x.write(0, 4);
        x.undo();
        x.plan(0, 0, 4, 0);
        check.same("the programme after undo", "300-390 f0 0/100", Check.written(x));
        x.restore();
        check.same("the programme after restore", "300-390 f0 0/100", Check.written(x));
    }
}
