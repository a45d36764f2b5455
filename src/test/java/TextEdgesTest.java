/** The paragraph on texts and the promises 34 to 36, at their edges. */
final class TextEdgesTest {
    private static final String[] WORDS = {"plan", "sell", "drop", "fail", "days"};
    private static final int[] NUMBERS = {4, 2, 1, 2, 1};

    private final Check check = new Check("TextEdgesTest");

    private TextEdgesTest() {
    }

    public static void main(String[] args) {
        TextEdgesTest test = new TextEdgesTest();
        test.words();
        test.countsOfNumbers();
        test.blanks();
        test.digits();
        test.semicolons();
        test.prefixesOfARightText();
        test.onlyTheFirstError();
        test.latestErrorPosition();
        test.textsOfSixtyCharacters();
        test.behindThoseBefore();
        test.allOrNone();
        test.asOneChange();
        test.whatACommandMayThrow();
        test.inputIsEmptyAfterwards();
        test.check.end();
    }

    /** Two halls of 100 and 50 seats, one film of 30 minutes, and show 0 in hall 0 on day 3. */
    private static CinemaProgramme cinema() {
        CinemaProgramme x = new CinemaProgramme();
        x.addHall(100, 0, 0);
        x.addHall(50, 0, 1);
        x.addFilm(30, 0, 1, 3, 0);
        x.plan(0, 0, 3, 100);
        return x;
    }

    private void error(String text, int position) {
        CinemaProgramme x = cinema();
        Check.type(x, text);
        check.fails("perform of \"" + text + "\"", Check.ARGUMENT, () -> x.perform());
        check.due("the error position of \"" + text + "\"", position, () -> x.errorPosition());
        check.fails("the reason after \"" + text + "\"", Check.NO_ELEMENT, () -> x.refusal(false));
    }

    /** The text is right, and its first command cannot be carried out, as there is no such thing. */
    private void right(String text) {
        CinemaProgramme x = cinema();
        Check.type(x, text);
        check.fails("perform of \"" + text + "\"", Check.REFUSED, () -> x.perform());
        check.fails("the error position of \"" + text + "\"", Check.NO_ELEMENT, () -> x.errorPosition());
    }

    private static String numbers(int count) {
        StringBuilder numbers = new StringBuilder();
        for (int k = 0; k < count; k++) {
            numbers.append(" 99");
        }
        return numbers.toString();
    }

    /** Each letter of each word, wrong or missing; a wrong letter may be right in another word. */
    private void words() {
        for (String word : WORDS) {
            for (int k = 0; k < 4; k++) {
                error(word.substring(0, k), k);
                error(word.substring(0, k) + 'x' + word.substring(k + 1) + " 1", k);
                error(word.substring(0, k) + Character.toUpperCase(word.charAt(k)), k);
                error("days 1;" + word.substring(0, k), 7 + k);
            }
            error(word, 4);
            error(word + ";", 4);
            error(word + "0", 4);
            error(word + ",0", 4);
        }
        error("drys 1", 2);
        error("daop 1", 2);
        error("dlan", 1);
        error("flan", 1);
        error("pell", 1);
        error("sail", 1);
        error("fell", 1);
        error("plop", 2);
        error("~", 0);
        error("0", 0);
    }

    private void countsOfNumbers() {
        for (int k = 0; k < WORDS.length; k++) {
            for (int count = 0; count < NUMBERS[k]; count++) {
                String few = WORDS[k] + numbers(count);
                error(few, few.length());
                error(few + ";", few.length());
                error(few + ";" + few, few.length());
            }
            String all = WORDS[k] + numbers(NUMBERS[k]);
            right(all);
            error(all + " ", all.length());
            error(all + " 1", all.length());
        }
    }

    private void blanks() {
        error(" days 1", 0);
        error("days  1", 5);
        error("days 1 ", 6);
        error("days 1 ;days 1", 6);
        error("days 1; days 1", 7);
        error("days1", 4);
        error("sell 0  1", 7);
        error("sell 0;1", 6);
        error("d ays 1", 1);
        error("sell 0 1 ", 8);
    }

    private void digits() {
        right("drop 9");
        right("drop 10");
        right("drop 99");
        right("drop 100");
        right("drop 999");
        error("drop 1000", 8);
        error("drop 9999", 8);
        error("drop 00", 6);
        error("drop 01", 6);
        error("drop 001", 6);
        error("drop 0a", 6);
        error("drop 1a", 6);
        error("drop 10a", 7);
        error("drop 100a", 8);
        error("drop -1", 5);
        error("drop +1", 5);
        error("drop a", 5);
        error("drop ", 5);
        error("drop ;", 5);
        error("drop /", 5);
        error("drop :", 5);
        error("drop 1/", 6);
        error("drop 1:", 6);
        error("sell 0 00", 8);
        error("sell 00 0", 6);
        error("plan 0 0 0 0000", 12);
        error("plan 999 999 999 1000", 20);
        right("plan 999 999 999 999");
        right("sell 0 0");
        right("days 0");
        right("fail 100 0");
    }

    private void semicolons() {
        error(";", 0);
        error(";days 1", 0);
        error("days 1;", 7);
        error("days 1;;", 7);
        error("days 1;;days 1", 7);
        error("days 1,days 1", 6);
        error("days 1:days 1", 6);
        error("days 1days 1", 6);
        error("days 1;days 1;", 14);
        right("days 1;days 1;drop 1");
    }

    /** Each beginning of a right text that is none itself has its own length as its error position. */
    private void prefixesOfARightText() {
        String text = "plan 0 0 100 10;sell 7 0;drop 20;fail 9 9;days 300";
        for (int length = 0; length < text.length(); length++) {
            String beginning = text.substring(0, length);
            CinemaProgramme x = cinema();
            Check.type(x, beginning);
            boolean isText = isWhole(beginning);
            check.fails("perform of \"" + beginning + "\"", isText ? Check.REFUSED : Check.ARGUMENT, () -> x.perform());
            if (!isText) {
                check.due("the error position of \"" + beginning + "\"", beginning.length(), () -> x.errorPosition());
            }
            error(beginning + '#', length);
        }
    }

    /** Whether the last command has all its numbers, and the last of these a digit. */
    private static boolean isWhole(String text) {
        String last = text.substring(text.lastIndexOf(';') + 1);
        for (int k = 0; k < WORDS.length; k++) {
            if (last.startsWith(WORDS[k])) {
                return last.split(" ", -1).length == NUMBERS[k] + 1 && !last.endsWith(" ");
            }
        }
        return false;
    }

    private void onlyTheFirstError() {
        error("days 01;drp", 6);
        error("days 1x;;", 6);
        error("x days 1", 0);
        error("days 1;x;y", 7);
    }

    private void latestErrorPosition() {
        CinemaProgramme x = cinema();
        check.fails("none was kept", Check.NO_ELEMENT, () -> x.errorPosition());
        Check.type(x, "days 1");
        check.due("a right text", 1, () -> x.perform());
        check.fails("none was kept by a right text", Check.NO_ELEMENT, () -> x.errorPosition());
        Check.type(x, "days 99");
        check.fails("a right text that is not carried out", Check.REFUSED, () -> x.perform());
        check.fails("none was kept by it", Check.NO_ELEMENT, () -> x.errorPosition());
        Check.type(x, "days x");
        check.fails("a wrong text", Check.ARGUMENT, () -> x.perform());
        check.due("its error position", 5, () -> x.errorPosition());
        check.fails("an empty text", Check.ARGUMENT, () -> x.perform());
        check.due("its error position", 0, () -> x.errorPosition());
        Check.type(x, "days 1;");
        check.fails("another wrong text", Check.ARGUMENT, () -> x.perform());
        check.due("its error position", 7, () -> x.errorPosition());
        Check.type(x, "days 1");
        check.due("a right text", 1, () -> x.perform());
        Check.type(x, "drop 9");
        check.fails("a right text that is not carried out", Check.REFUSED, () -> x.perform());
        x.undo();
        x.save();
        x.restore();
        check.due("the error position that was kept last", 7, () -> x.errorPosition());
    }

    private void textsOfSixtyCharacters() {
        String text = "days 1;days 1;days 1;days 1;days 1;days 1;days 1;plan 0 0 0 ";
        check.due("the characters", 60, () -> text.length());
        error(text, 60);
        error(text.substring(0, 59) + ";", 59);
        String full = "sell 0 1;sell 0 2;sell 0 3;sell 0 4;sell 0 5;sell 0 6;days 1";
        CinemaProgramme x = cinema();
        Check.type(x, full);
        check.fails("the input holds 60 characters", Check.STATE, () -> x.append('0'));
        check.due("perform of 60 characters", 7, () -> x.perform());
        check.due("the tickets", 21, () -> x.show(0, 5));
        check.due("the last number was not made longer", 1, () -> x.account(11));
        error(full.substring(0, 59) + "x", 59);
        error(full.substring(0, 59), 59);
        error(full.substring(0, 53) + ";aaa", 54);
    }

    /** The call for a command, behind those before it. */
    private void behindThoseBefore() {
        CinemaProgramme x = cinema();
        Check.type(x, "plan 1 0 3 100;sell 1 50;drop 1;plan 1 0 3 100;sell 2 50");
        check.due("a show that a command ahead has planned", 5, () -> x.perform());
        check.due("its tickets", 50, () -> x.show(2, 5));
        check.due("the tickets given back", 50, () -> x.account(9));
        Check.type(x, "fail 0 3;sell 0 51");
        check.fails("a show that a command ahead has moved", Check.REFUSED, () -> x.perform());
        check.due("the reason", 12, () -> x.refusal(false));
        check.due("the seats left in its hall by then", 50, () -> x.refusal(true));
        Check.type(x, "drop 2;fail 0 3;sell 0 50;days 3;days 1");
        check.due("a hall that a command ahead has freed", 5, () -> x.perform());
        check.due("the hall of the show", 1, () -> x.show(0, 0));
        check.due("today", 4, () -> x.account(11));
        Check.type(x, "days 1;fail 1 4");
        check.fails("a day that is before today by then", Check.REFUSED, () -> x.perform());
        Check.type(x, "fail 1 4;days 1");
        check.due("a day that is today by then", 2, () -> x.perform());
    }

    private void allOrNone() {
        String[] firsts = {"plan 1 0 3 100", "sell 0 100", "drop 0", "fail 0 3", "days 3"};
        for (String first : firsts) {
            CinemaProgramme x = cinema();
            CinemaProgramme y = cinema();
            Check.type(x, first + ";drop 9");
            check.fails("perform of \"" + first + "\" and a wrong command", Check.REFUSED, () -> x.perform());
            check.same("the state after it", View.state(y), View.state(x));
            check.due("undo after it", 3, () -> x.undo());
            Check.type(y, first);
            check.due("perform of \"" + first + "\" alone", 1, () -> y.perform());
            check.due("undo of it", 4, () -> y.undo());
        }
    }

    private void asOneChange() {
        CinemaProgramme x = cinema();
        for (int k = 0; k < 8; k++) {
            Check.type(x, "sell 0 1;sell 0 2");
            x.perform();
        }
        check.due("the tickets", 24, () -> x.show(0, 5));
        for (int left = 7; left >= 0; left--) {
            int due = left;
            check.due("undo of a text", due, () -> x.undo());
            check.due("the tickets then", 3 * due, () -> x.show(0, 5));
        }
        check.fails("nothing is left to undo", Check.STATE, () -> x.undo());
        Check.type(x, "sell 0 1");
        check.due("a text of one command", 1, () -> x.perform());
        check.due("undo of it", 0, () -> x.undo());
    }

    /** Each exception of each command's call, and that its reason is kept if it is a refusal. */
    private void whatACommandMayThrow() {
        String[] texts = {"plan 2 0 3 0", "plan 0 1 3 0", "plan 0 0 60 0", "plan 0 0 3 960", "sell 1 1", "sell 0 0",
            "sell 0 401", "drop 1", "drop 0;drop 0", "drop 0;sell 0 1", "fail 2 0", "fail 0 60", "fail 0 3;fail 0 3",
            "days 1;fail 0 0", "days 0", "days 31", "days 30;days 30", "days 4;sell 0 1", "days 4;drop 0"};
        for (String text : texts) {
            right(text);
            CinemaProgramme x = cinema();
            Check.type(x, text);
            check.fails("perform of \"" + text + "\"", Check.REFUSED, () -> x.perform());
            check.fails("a reason after \"" + text + "\"", Check.NO_ELEMENT, () -> x.refusal(true));
        }
        reason("days 3;plan 0 0 2 0", 1, 3);
        reason("fail 0 4;plan 0 0 4 0", 2, 0);
        reason("plan 0 0 3 931", 5, 961);
        reason("plan 0 0 3 129", 6, 0);
        reason("plan 1 0 3 91;plan 1 0 3 62", 6, 1);
        reason("sell 0 60;sell 0 41", 12, 40);
        reason("sell 0 100;sell 0 1", 12, 0);
    }

    private void reason(String text, int reason, int detail) {
        CinemaProgramme x = cinema();
        x.set(0, 0);
        Check.type(x, text);
        check.fails("perform of \"" + text + "\"", Check.REFUSED, () -> x.perform());
        check.due("its reason", reason, () -> x.refusal(false));
        check.due("its detail", detail, () -> x.refusal(true));
        check.fails("its error position", Check.NO_ELEMENT, () -> x.errorPosition());
    }

    private void inputIsEmptyAfterwards() {
        String[] texts = {"days 1", "days", "days 0", ";", "sell 0 101"};
        for (String text : texts) {
            CinemaProgramme x = cinema();
            Check.type(x, text);
            try {
                x.perform();
            } catch (IllegalArgumentException | UnsupportedOperationException e) {
                check.due("days have not passed", 0, () -> x.account(11));
            }
            check.due("the length behind \"" + text + "\"", 1, () -> x.append('d'));
            Check.type(x, "ays 2");
            check.due("the next text", 1, () -> x.perform());
        }
    }
}
