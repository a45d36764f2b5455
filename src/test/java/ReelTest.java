/** Promises 13 and 14: trailers that fit, and the best reel. */
final class ReelTest {
    private final Check check = new Check("ReelTest");

    private ReelTest() {
    }

    public static void main(String[] args) {
        ReelTest test = new ReelTest();
        test.fitting();
        test.minutesFirst();
        test.fewestThen();
        test.lowestThen();
        test.atMostFour();
        test.block();
        test.check.end();
    }

    /** Film 0 is shown; film 1, released on the last day, is what the trailers are for. */
    private static CinemaProgramme withTrailers(int... lengths) {
        CinemaProgramme x = new CinemaProgramme();
        x.addFilm(90, 2, 3, 1, 0);
        x.addFilm(90, 3, 3, 1, 59);
        for (int length : lengths) {
            x.addTrailer(1, length, 0, 1);
        }
        return x;
    }

    private void fitting() {
        CinemaProgramme x = new CinemaProgramme();
        x.addFilm(90, 2, 0b000110, 1, 0);
        x.addFilm(90, 3, 0b111000, 1, 20);
        x.addTrailer(1, 3, 2, 0b000100);
        x.addTrailer(1, 3, 3, 0b000100);
        x.addTrailer(1, 3, 0, 0b111001);
        x.addTrailer(0, 3, 0, 0b000110);
        check.due("a trailer that fits", 1, () -> Check.flag(x.fits(0, 0, 0)));
        check.due("the day before the release", 1, () -> Check.flag(x.fits(0, 0, 19)));
        check.due("the day of the release", 0, () -> Check.flag(x.fits(0, 0, 20)));
        check.due("a rating too high", 0, () -> Check.flag(x.fits(1, 0, 0)));
        check.due("no genre in common", 0, () -> Check.flag(x.fits(2, 0, 0)));
        check.due("its own film", 0, () -> Check.flag(x.fits(2, 1, 0)));
        check.due("a film that is out", 0, () -> Check.flag(x.fits(3, 1, 0)));
        check.fails("fits(4, 0, 0)", Check.INDEX, () -> Check.flag(x.fits(4, 0, 60)));
        check.fails("fits(-1, 0, 0)", Check.INDEX, () -> Check.flag(x.fits(-1, 0, 0)));
        check.fails("fits(0, 2, 0)", Check.INDEX, () -> Check.flag(x.fits(0, 2, 0)));
        check.fails("fits(0, -1, 0)", Check.INDEX, () -> Check.flag(x.fits(0, -1, 0)));
        check.fails("fits(0, 0, 60)", Check.ARGUMENT, () -> Check.flag(x.fits(0, 0, 60)));
        check.fails("fits(0, 0, -1)", Check.ARGUMENT, () -> Check.flag(x.fits(0, 0, -1)));
        check.due("only one fits", 1, () -> x.reel(0, 0, false));
        check.due("none fits", 0, () -> x.reel(0, 20, false));
        check.due("none fits: no minutes", 0, () -> x.reel(0, 20, true));
        check.fails("reel(2, 60, true)", Check.INDEX, () -> x.reel(2, 60, true));
        check.fails("reel(0, 60, true)", Check.ARGUMENT, () -> x.reel(0, 60, true));
        check.fails("reel(0, -1, false)", Check.ARGUMENT, () -> x.reel(0, -1, false));
    }

    private void minutesFirst() {
        CinemaProgramme x = withTrailers(6, 3, 3, 3);
        check.due("9 of 10 minutes, as 6 + 3", 0b0011, () -> x.reel(0, 0, false));
        check.due("9 minutes", 9, () -> x.reel(0, 0, true));
        x.addTrailer(1, 1, 0, 1);
        check.due("6 + 3 + 1", 0b10011, () -> x.reel(0, 0, false));
        check.due("10 minutes", 10, () -> x.reel(0, 0, true));
    }

    private void fewestThen() {
        CinemaProgramme x = withTrailers(2, 2, 1, 5, 5);
        check.due("two of five minutes are fewer than four", 0b11000, () -> x.reel(0, 0, false));
    }

    private void lowestThen() {
        CinemaProgramme x = withTrailers(5, 1, 4, 6, 5);
        check.due("0 and 4 come ahead of 2 and 3", 0b10001, () -> x.reel(0, 0, false));
        CinemaProgramme y = withTrailers(1, 2, 3, 4, 3, 2);
        check.due("2, 3 and 4 are fewer than 0, 1, 2 and 3", 0b011100, () -> y.reel(0, 0, false));
        CinemaProgramme z = withTrailers(4, 5, 5, 6);
        check.due("0 and 3 come ahead of 1 and 2", 0b1001, () -> z.reel(0, 0, false));
    }

    private void atMostFour() {
        CinemaProgramme x = withTrailers(1, 1, 1, 1, 1, 2);
        check.due("four trailers", 0b100111, () -> x.reel(0, 0, false));
        check.due("five minutes", 5, () -> x.reel(0, 0, true));
        CinemaProgramme full = withTrailers(1, 1, 1, 1, 1, 1, 1, 1, 1, 2);
        check.due("the last of ten trailers", 0b1000000111, () -> full.reel(0, 0, false));
    }

    private void block() {
        CinemaProgramme x = withTrailers(6, 6, 6, 6);
        x.set(3, 20);
        check.due("three of six minutes", 0b0111, () -> x.reel(0, 0, false));
        x.set(3, 18);
        check.due("18 minutes fill the block", 18, () -> x.reel(0, 0, true));
        x.set(3, 17);
        check.due("two of six minutes", 0b0011, () -> x.reel(0, 0, false));
        x.set(3, 5);
        check.due("no trailer is short enough", 0, () -> x.reel(0, 0, false));
        x.set(3, 0);
        check.due("a block of 0", 0, () -> x.reel(0, 0, true));
    }
}
