/** What can be asked of an object, as a text in which two objects can be compared. */
final class View {
    private static final int HALLS = 0;
    private static final int FILMS = 1;
    private static final int TRAILERS = 2;
    private static final int SHOWS = 3;

    private View() {
    }

    static String accounts(CinemaProgramme x) {
        StringBuilder view = new StringBuilder();
        for (int what = 0; what <= 11; what++) {
            view.append(x.account(what)).append(' ');
        }
        return view.toString();
    }

    /** What undo, saving and restoring concern. */
    static String state(CinemaProgramme x) {
        StringBuilder view = new StringBuilder(accounts(x));
        for (int number = 0; number <= 25; number = number == 5 ? 10 : number + 1) {
            view.append(x.setting(number)).append(' ');
        }
        rows(view.append("\nhalls "), x.account(HALLS), 6, (hall, what) -> x.hall(hall, what));
        rows(view.append("\nfilms "), x.account(FILMS), 11, (film, what) -> x.film(film, what));
        rows(view.append("\ntrailers "), x.account(TRAILERS), 3, (trailer, what) -> x.trailer(trailer, what));
        rows(view.append("\nshows "), x.account(SHOWS), 11, (show, what) -> x.show(show, what));
        rows(view.append("\nlines "), lines(x), 4, (line, what) -> x.line(line, what));
        return view.toString();
    }

    /** What is kept beside it, but for the input, which no call tells. */
    static String rest(CinemaProgramme x) {
        StringBuilder view = new StringBuilder();
        view.append("written ").append(Check.written(x));
        view.append("\nreason ").append(orNone(() -> x.refusal(false)));
        view.append(' ').append(orNone(() -> x.refusal(true)));
        view.append("\nerror position ").append(orNone(() -> x.errorPosition()));
        return view.toString();
    }

    private interface Part {
        int of(int row, int what);
    }

    private static void rows(StringBuilder view, int count, int last, Part part) {
        for (int row = 0; row < count; row++) {
            for (int what = 0; what <= last; what++) {
                view.append(part.of(row, what)).append(' ');
            }
            view.append("| ");
        }
    }

    private static int lines(CinemaProgramme x) {
        int lines = 0;
        while (lines < 30 && orNone(lines, x) != -1) {
            lines++;
        }
        return lines;
    }

    private static long orNone(int line, CinemaProgramme x) {
        return orNone(() -> x.line(line, 0));
    }

    private static long orNone(Check.Call call) {
        try {
            return call.answer();
        } catch (java.util.NoSuchElementException e) {
            return -1;
        }
    }
}
