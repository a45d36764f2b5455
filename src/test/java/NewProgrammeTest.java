/** Promise 1, and what the promises of questions tell of a new object. */
final class NewProgrammeTest {
    private NewProgrammeTest() {
    }

    public static void main(String[] args) {
        Check check = new Check("NewProgrammeTest");
        CinemaProgramme x = new CinemaProgramme();
        for (int what = 0; what <= 11; what++) {
            int number = what;
            check.due("account(" + what + ")", 0, () -> x.account(number));
        }
        check.fails("hall(0, 0)", Check.INDEX, () -> x.hall(0, 0));
        check.fails("film(0, 0)", Check.INDEX, () -> x.film(0, 0));
        check.fails("trailer(0, 0)", Check.INDEX, () -> x.trailer(0, 0));
        check.fails("show(0, 0)", Check.INDEX, () -> x.show(0, 0));
        check.fails("line(0, 0)", Check.NO_ELEMENT, () -> x.line(0, 0));
        check.fails("written(0)", Check.INDEX, () -> x.written(0));
        check.fails("refusal(true)", Check.NO_ELEMENT, () -> x.refusal(true));
        check.fails("refusal(false)", Check.NO_ELEMENT, () -> x.refusal(false));
        check.fails("errorPosition()", Check.NO_ELEMENT, () -> x.errorPosition());
        check.fails("bestFilm()", Check.NO_ELEMENT, () -> x.bestFilm());
        check.fails("use()", Check.ARITHMETIC, () -> (long) x.use());
        check.fails("undo()", Check.STATE, () -> x.undo());
        check.fails("restore()", Check.STATE, () -> x.restore());
        check.due("save()", 0, () -> x.save());
        check.due("at(0, 0, 0)", 0, () -> x.at(0, 0, 0));
        check.due("at(59, 1200, 3)", -1, () -> x.at(59, 1200, 3));
        int[] settings = {10, 2, 15, 10, 60, 10};
        for (int number = 0; number < settings.length; number++) {
            int asked = number;
            check.due("setting(" + number + ")", settings[number], () -> x.setting(asked));
        }
        for (int hour = 0; hour < 16; hour++) {
            int asked = 10 + hour;
            check.due("setting(" + asked + ")", 3, () -> x.setting(asked));
        }
        CinemaProgramme other = new CinemaProgramme();
        other.addHall(1, 0, 0);
        check.due("account(0) of another object", 0, () -> x.account(0));
        check.end();
    }
}
