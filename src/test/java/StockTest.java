/** Promises 2 to 12: halls, films, shares, trailers, settings and limits. */
final class StockTest {
    private final Check check = new Check("StockTest");

    private StockTest() {
    }

    public static void main(String[] args) {
        StockTest test = new StockTest();
        test.halls();
        test.films();
        test.shares();
        test.trailers();
        test.settings();
        test.limits();
        test.check.end();
    }

    private void halls() {
        CinemaProgramme x = new CinemaProgramme();
        int[][] wrong = {{0, 0, 0}, {401, 0, 0}, {1, -1, 0}, {1, 41, 0}, {1, 0, -1}, {1, 0, 3},
            {Integer.MIN_VALUE, 0, 0}, {1, Integer.MAX_VALUE, 0}};
        for (int[] row : wrong) {
            check.fails("addHall" + java.util.Arrays.toString(row), Check.ARGUMENT,
                    () -> x.addHall(row[0], row[1], row[2]));
        }
        check.due("addHall(1, 0, 0)", 0, () -> x.addHall(1, 0, 0));
        check.due("addHall(400, 40, 2)", 1, () -> x.addHall(400, 40, 2));
        for (int hall = 2; hall < 6; hall++) {
            check.due("addHall(50, 5, 1)", hall, () -> x.addHall(50, 5, 1));
        }
        check.fails("a seventh hall", Check.STATE, () -> x.addHall(50, 5, 1));
        check.fails("a wrong seventh hall", Check.ARGUMENT, () -> x.addHall(0, 5, 1));
        int[] due = {400, 40, 2, -1, 0, 0, 0};
        for (int what = 0; what < due.length; what++) {
            int asked = what;
            check.due("hall(1, " + what + ")", due[what], () -> x.hall(1, asked));
        }
        check.fails("hall(6, 0)", Check.INDEX, () -> x.hall(6, 0));
        check.fails("hall(-1, 9)", Check.INDEX, () -> x.hall(-1, 9));
        check.fails("hall(0, 7)", Check.ARGUMENT, () -> x.hall(0, 7));
        check.fails("hall(0, -1)", Check.ARGUMENT, () -> x.hall(0, -1));
    }

    private void films() {
        CinemaProgramme x = new CinemaProgramme();
        int[][] wrong = {{29, 0, 1, 1, 0}, {241, 0, 1, 1, 0}, {30, -1, 1, 1, 0}, {30, 4, 1, 1, 0}, {30, 0, 0, 1, 0},
            {30, 0, 64, 1, 0}, {30, 0, -1, 1, 0}, {30, 0, 1, 0, 0}, {30, 0, 1, 4, 0}, {30, 0, 1, 1, -1},
            {30, 0, 1, 1, 60}};
        for (int[] row : wrong) {
            check.fails("addFilm" + java.util.Arrays.toString(row), Check.ARGUMENT,
                    () -> x.addFilm(row[0], row[1], row[2], row[3], row[4]));
        }
        check.due("addFilm(30, 0, 1, 1, 0)", 0, () -> x.addFilm(30, 0, 1, 1, 0));
        check.due("addFilm(240, 3, 63, 3, 59)", 1, () -> x.addFilm(240, 3, 63, 3, 59));
        for (int film = 2; film < 8; film++) {
            check.due("addFilm(100, 1, 2, 2, 5)", film, () -> x.addFilm(100, 1, 2, 2, 5));
        }
        check.fails("a ninth film", Check.STATE, () -> x.addFilm(100, 1, 2, 2, 5));
        check.fails("a wrong ninth film", Check.ARGUMENT, () -> x.addFilm(100, 1, 2, 2, 60));
        int[] due = {240, 3, 63, 3, 59, 0, 0, 0, 0, 60, 10, 20};
        for (int what = 0; what < due.length; what++) {
            int asked = what;
            check.due("film(1, " + what + ")", due[what], () -> x.film(1, asked));
        }
        check.fails("film(8, 12)", Check.INDEX, () -> x.film(8, 12));
        check.fails("film(0, 12)", Check.ARGUMENT, () -> x.film(0, 12));
        check.fails("film(0, -1)", Check.ARGUMENT, () -> x.film(0, -1));
    }

    private void shares() {
        CinemaProgramme x = new CinemaProgramme();
        check.fails("setShares without films", Check.INDEX, () -> x.setShares(0, 101, 0, 0));
        x.addFilm(30, 0, 1, 1, 10);
        int[][] days = {{10, 60}, {16, 60}, {17, 50}, {23, 50}, {24, 40}, {38, 20}, {45, 20}, {59, 20}};
        for (int[] row : days) {
            check.due("share(0, " + row[0] + ")", row[1], () -> x.share(0, row[0]));
        }
        check.fails("share(0, 9)", Check.NO_ELEMENT, () -> x.share(0, 9));
        check.fails("share(0, -1)", Check.ARGUMENT, () -> x.share(0, -1));
        check.fails("share(0, 60)", Check.ARGUMENT, () -> x.share(0, 60));
        check.fails("share(1, 60)", Check.INDEX, () -> x.share(1, 60));
        int[][] wrong = {{-1, 0, 0}, {101, 0, 0}, {50, -1, 0}, {50, 51, 0}, {50, 0, -1}, {50, 0, 51}};
        for (int[] row : wrong) {
            check.fails("setShares" + java.util.Arrays.toString(row), Check.ARGUMENT,
                    () -> x.setShares(0, row[0], row[1], row[2]));
        }
        check.due("setShares(0, 100, 50, 100)", 60, () -> x.setShares(0, 100, 50, 100));
        check.due("share that does not fall", 100, () -> x.share(0, 59));
        check.due("setShares(0, 100, 50, 0)", 100, () -> x.setShares(0, 100, 50, 0));
        check.due("share after two weeks", 0, () -> x.share(0, 24));
        check.due("share after seven weeks", 0, () -> x.share(0, 59));
        check.due("setShares(0, 0, 0, 0)", 100, () -> x.setShares(0, 0, 0, 0));
        check.due("film(0, 9)", 0, () -> x.film(0, 9));
        check.due("setShares(0, 80, 7, 31)", 0, () -> x.setShares(0, 80, 7, 31));
        check.due("film(0, 9)", 80, () -> x.film(0, 9));
        check.due("film(0, 10)", 7, () -> x.film(0, 10));
        check.due("film(0, 11)", 31, () -> x.film(0, 11));
        check.due("share after one week", 73, () -> x.share(0, 17));
        check.due("undo", 4, () -> x.undo());
        check.due("film(0, 9) after undo", 0, () -> x.film(0, 9));
    }

    private void trailers() {
        CinemaProgramme x = new CinemaProgramme();
        check.fails("addTrailer without films", Check.INDEX, () -> x.addTrailer(0, 0, 0, 0));
        x.addFilm(30, 0, 1, 1, 10);
        int[][] wrong = {{0, 0, 1}, {7, 0, 1}, {1, -1, 1}, {1, 4, 1}, {1, 0, 0}, {1, 0, 64}};
        for (int[] row : wrong) {
            check.fails("addTrailer" + java.util.Arrays.toString(row), Check.ARGUMENT,
                    () -> x.addTrailer(0, row[0], row[1], row[2]));
        }
        check.fails("addTrailer(-1, 1, 0, 1)", Check.INDEX, () -> x.addTrailer(-1, 1, 0, 1));
        check.due("addTrailer(0, 1, 0, 1)", 0, () -> x.addTrailer(0, 1, 0, 1));
        check.due("addTrailer(0, 6, 3, 63)", 1, () -> x.addTrailer(0, 6, 3, 63));
        for (int trailer = 2; trailer < 10; trailer++) {
            check.due("addTrailer(0, 2, 1, 5)", trailer, () -> x.addTrailer(0, 2, 1, 5));
        }
        check.fails("an eleventh trailer", Check.STATE, () -> x.addTrailer(0, 2, 1, 5));
        check.fails("a wrong eleventh trailer", Check.ARGUMENT, () -> x.addTrailer(0, 2, 1, 0));
        int[] due = {0, 6, 3, 63};
        for (int what = 0; what < due.length; what++) {
            int asked = what;
            check.due("trailer(1, " + what + ")", due[what], () -> x.trailer(1, asked));
        }
        check.due("trailer(9, 3)", 5, () -> x.trailer(9, 3));
        check.fails("trailer(10, 0)", Check.INDEX, () -> x.trailer(10, 0));
        check.fails("trailer(-1, 4)", Check.INDEX, () -> x.trailer(-1, 4));
        check.fails("trailer(0, 4)", Check.ARGUMENT, () -> x.trailer(0, 4));
        check.fails("trailer(0, -1)", Check.ARGUMENT, () -> x.trailer(0, -1));
    }

    private void settings() {
        CinemaProgramme x = new CinemaProgramme();
        int[] lowest = {0, 1, 0, 0, 0, 1};
        int[] highest = {30, 3, 60, 20, 120, 99};
        int[] first = {10, 2, 15, 10, 60, 10};
        for (int k = 0; k < first.length; k++) {
            int number = k;
            check.fails("set(" + k + ", too little)", Check.ARGUMENT, () -> x.set(number, lowest[number] - 1));
            check.fails("set(" + k + ", too much)", Check.ARGUMENT, () -> x.set(number, highest[number] + 1));
            check.due("set(" + k + ", least)", first[k], () -> x.set(number, lowest[number]));
            check.due("setting(" + k + ")", lowest[k], () -> x.setting(number));
            check.due("set(" + k + ", most)", lowest[k], () -> x.set(number, highest[number]));
            check.due("setting(" + k + ")", highest[k], () -> x.setting(number));
        }
        check.fails("set(6, 1)", Check.INDEX, () -> x.set(6, 1));
        check.fails("set(-1, -1)", Check.INDEX, () -> x.set(-1, -1));
        check.fails("set(10, 1)", Check.INDEX, () -> x.set(10, 1));
        for (int number : new int[] {-1, 6, 9, 26, Integer.MAX_VALUE, Integer.MIN_VALUE}) {
            check.fails("setting(" + number + ")", Check.INDEX, () -> x.setting(number));
        }
    }

    private void limits() {
        CinemaProgramme x = new CinemaProgramme();
        check.due("setLimit(0, 0)", 3, () -> x.setLimit(0, 0));
        check.due("setLimit(15, 2)", 3, () -> x.setLimit(15, 2));
        check.due("setLimit(0, 1)", 0, () -> x.setLimit(0, 1));
        check.due("setting(10)", 1, () -> x.setting(10));
        check.due("setting(25)", 2, () -> x.setting(25));
        check.due("setting(11)", 3, () -> x.setting(11));
        check.fails("setLimit(16, 0)", Check.INDEX, () -> x.setLimit(16, 0));
        check.fails("setLimit(-1, 4)", Check.INDEX, () -> x.setLimit(-1, 4));
        check.fails("setLimit(0, 4)", Check.ARGUMENT, () -> x.setLimit(0, 4));
        check.fails("setLimit(0, -1)", Check.ARGUMENT, () -> x.setLimit(0, -1));
    }
}
