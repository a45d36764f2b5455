/** Promises 34 to 36: the input, texts of commands, and error positions. */
final class TextTest {
    private static final String SIXTY = "sell 0 1;sell 0 1;sell 0 1;sell 0 1;sell 0 1;sell 0 1;drop 0";

    private final Check check = new Check("TextTest");

    private TextTest() {
    }

    public static void main(String[] args) {
        TextTest test = new TextTest();
        test.appending();
        test.errorPositions();
        test.rightTexts();
        test.eachCommand();
        test.allOrNone();
        test.reasonsOfTexts();
        test.numbersTooGreat();
        test.emptiedInput();
        test.check.end();
    }

    private static CinemaProgramme cinema() {
        CinemaProgramme x = new CinemaProgramme();
        x.addHall(100, 0, 0);
        x.addHall(100, 0, 1);
        x.addFilm(30, 0, 1, 3, 0);
        x.plan(0, 0, 0, 0);
        return x;
    }

    private void appending() {
        CinemaProgramme x = new CinemaProgramme();
        check.fails("append(31)", Check.ARGUMENT, () -> x.append((char) 31));
        check.fails("append(127)", Check.ARGUMENT, () -> x.append((char) 127));
        check.fails("append(65535)", Check.ARGUMENT, () -> x.append((char) 65535));
        check.fails("append(0)", Check.ARGUMENT, () -> x.append((char) 0));
        check.due("append(32)", 1, () -> x.append((char) 32));
        check.due("append(126)", 2, () -> x.append((char) 126));
        for (int length = 3; length <= 60; length++) {
            check.due("append", length, () -> x.append('a'));
        }
        check.fails("append to a full input", Check.STATE, () -> x.append('a'));
        check.fails("append a wrong sign to a full input", Check.ARGUMENT, () -> x.append((char) 127));
    }

    private void errorPositions() {
        String[] texts = {"", " ", "x", "p", "pl", "pla", "plan", "plan ", "plan 0", "plan 0 ", "plan 0 0 0", "plan 0 0 0 ",
            "plan 0 0 0 0;", "plan 0 0 0 0 ", "plan 0 0 0 0 0", "plan  0", "plan0 0 0 0", "plan x", "plans", "Plan",
            "days 01", "days 00", "days 1000", "days 100x", "days -1", "days +1", "days 1;", "days 1;;", "days 1; days 1",
            "days 1 ;days 1", "days 1,days 1", "d", "da", "dr", "dx", "dax", "drx", "dao", "dray", "drop", "dropp 1",
            "drop 1 2", "sell 1", "sell 1;", "sell 1 2 3", "fail 1", "fail 1 1 1", "fai 1 1", "s", "f", "sello 1 1",
            "days 1;drop 1;pl", "days 1;drop 1;plx", "days 1;drop 01", "dayss 1", "days\"1", "~", "days 1 1",
            "plan 10 20 30 0x", "plan 1 2 3 4;sell 5 6;drop 7;fail 8 9;days 10;plan 999 999 9", ";days 1", "sell 0 0 "};
        int[] due = {0, 0, 0, 1, 2, 3, 4, 5, 6, 7, 10, 11,
            13, 12, 12, 5, 4, 5, 4, 0,
            6, 6, 8, 8, 5, 5, 7, 7, 7,
            6, 6, 1, 2, 2, 1, 2, 2, 2, 2, 4, 4,
            6, 6, 6, 8, 6, 8, 3, 1, 1, 4,
            16, 16, 13, 4, 4, 0, 6,
            15, 60, 0, 8};
        for (int k = 0; k < texts.length; k++) {
            CinemaProgramme x = cinema();
            String text = texts[k].length() > 60 ? texts[k].substring(0, 60) : texts[k];
            Check.type(x, text);
            check.fails("perform of \"" + text + "\"", Check.ARGUMENT, () -> x.perform());
            check.due("the error position of \"" + text + "\"", due[k], () -> x.errorPosition());
            check.fails("a reason", Check.NO_ELEMENT, () -> x.refusal(false));
        }
        check.due("texts and positions", texts.length, () -> due.length);
    }

    private void rightTexts() {
        CinemaProgramme x = cinema();
        check.fails("errorPosition at first", Check.NO_ELEMENT, () -> x.errorPosition());
        Check.type(x, SIXTY);
        check.due("perform of 60 characters", 7, () -> x.perform());
        check.due("the tickets given back", 6, () -> x.account(9));
        check.fails("errorPosition without an error", Check.NO_ELEMENT, () -> x.errorPosition());
        Check.type(x, "days 1;days 1;days 1;days 1;days 1;days 1;days 1;days 1");
        check.due("perform of eight commands", 8, () -> x.perform());
        check.due("today", 8, () -> x.account(11));
        Check.type(x, "days");
        check.fails("perform of a part", Check.ARGUMENT, () -> x.perform());
        Check.type(x, "days 1");
        check.due("perform of one command", 1, () -> x.perform());
        check.due("errorPosition after a right text", 4, () -> x.errorPosition());
        x.undo();
        check.due("errorPosition after undo", 4, () -> x.errorPosition());
    }

    private void eachCommand() {
        CinemaProgramme x = cinema();
        Check.type(x, "plan 1 0 12 100;sell 0 99;plan 0 0 12 200");
        check.due("perform", 3, () -> x.perform());
        int[] due = {1, 0, 12, 100, 130};
        for (int what = 0; what < due.length; what++) {
            int asked = what;
            check.due("show(1, " + what + ")", due[what], () -> x.show(1, asked));
        }
        check.due("the tickets of show 0", 99, () -> x.show(0, 5));
        Check.type(x, "drop 0;fail 1 12;days 10");
        check.due("perform", 3, () -> x.perform());
        check.due("show 0 is cancelled", 1, () -> x.show(0, 8));
        check.due("its tickets are given back", 99, () -> x.account(9));
        check.due("hall 1 is closed", 12, () -> x.hall(1, 3));
        check.due("show 1 moved", 0, () -> x.show(1, 0));
        check.due("a line", 1, () -> x.line(0, 0));
        check.due("today", 10, () -> x.account(11));
        check.due("undo of three commands at once", 5, () -> x.undo());
        check.due("today", 0, () -> x.account(11));
        check.due("show 0 is not cancelled", 0, () -> x.show(0, 8));
        check.due("hall 1 is open", -1, () -> x.hall(1, 3));
        check.fails("no line", Check.NO_ELEMENT, () -> x.line(0, 0));
    }

    private void allOrNone() {
        String[] texts = {"sell 0 5;sell 1 1", "sell 0 5;drop 0;drop 0", "sell 0 5;days 0", "days 3;sell 0 5",
            "fail 0 0;fail 0 0", "sell 0 5;plan 0 1 0 100", "sell 0 5;plan 0 0 60 100", "days 30;days 30",
            "days 5;fail 0 4", "drop 0;sell 0 1", "sell 0 0", "fail 2 0", "sell 0 401"};
        for (String text : texts) {
            CinemaProgramme x = cinema();
            Check.type(x, text);
            check.fails("perform of \"" + text + "\"", Check.REFUSED, () -> x.perform());
            check.fails("its reason", Check.NO_ELEMENT, () -> x.refusal(false));
            check.fails("its error position", Check.NO_ELEMENT, () -> x.errorPosition());
            check.due("the tickets after it", 0, () -> x.show(0, 5));
            check.due("the state of the show after it", 0, () -> x.show(0, 8));
            check.due("the closed hall after it", -1, () -> x.hall(0, 3));
            check.due("today after it", 0, () -> x.account(11));
            check.due("the tickets given back after it", 0, () -> x.account(9));
            check.fails("the lines after it", Check.NO_ELEMENT, () -> x.line(0, 0));
            check.due("undo after it", 3, () -> x.undo());
            check.due("the shows then", 0, () -> x.account(3));
        }
    }

    private void reasonsOfTexts() {
        CinemaProgramme x = cinema();
        Check.type(x, "sell 0 60;plan 0 0 0 10;sell 0 41");
        check.fails("perform that is refused", Check.REFUSED, () -> x.perform());
        check.due("its reason", 6, () -> x.refusal(false));
        check.due("its detail", 0, () -> x.refusal(true));
        Check.type(x, "sell 0 60;sell 0 41;plan 0 0 0 10");
        check.fails("perform that is refused", Check.REFUSED, () -> x.perform());
        check.due("the reason of the first refusal", 12, () -> x.refusal(false));
        check.due("the seats left behind the commands before it", 40, () -> x.refusal(true));
        Check.type(x, "drop 1");
        check.fails("perform with a wrong call", Check.REFUSED, () -> x.perform());
        check.due("the reason of before", 12, () -> x.refusal(false));
    }

    private void numbersTooGreat() {
        String[] texts = {"days 999", "plan 999 0 0 0", "plan 0 0 0 960", "plan 0 0 999 0", "sell 0 999", "drop 999",
            "fail 999 0", "fail 0 999", "days 31"};
        for (String text : texts) {
            CinemaProgramme x = cinema();
            Check.type(x, text);
            check.fails("perform of \"" + text + "\"", Check.REFUSED, () -> x.perform());
            check.fails("its error position", Check.NO_ELEMENT, () -> x.errorPosition());
            check.fails("its reason", Check.NO_ELEMENT, () -> x.refusal(false));
        }
    }

    private void emptiedInput() {
        CinemaProgramme x = cinema();
        Check.type(x, "days 1");
        x.perform();
        check.due("append after a text that was carried out", 1, () -> x.append('d'));
        check.fails("a text that is wrong", Check.ARGUMENT, () -> x.perform());
        check.due("append after it", 1, () -> x.append('d'));
        Check.type(x, "ays 0");
        check.fails("a text that cannot be carried out", Check.REFUSED, () -> x.perform());
        check.due("append after it", 1, () -> x.append('d'));
        x.save();
        x.undo();
        x.restore();
        check.due("undo and restore leave the input", 2, () -> x.append('a'));
    }
}
