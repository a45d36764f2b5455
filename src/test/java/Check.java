import java.util.NoSuchElementException;

/** Compares what calls answer with what is due, and counts what is wrong. */
final class Check {
    /** A call whose answer is a number; a boolean counts 1 or 0. */
    interface Call {
        long answer();
    }

    /** A call with one number of which both sides of its range are looked at. */
    interface NumberCall {
        long answer(int number);
    }

    /** A call on an object that is handed in. */
    interface CinemaCall {
        long answer(CinemaProgramme cinema);
    }

    static final Class<? extends RuntimeException> INDEX = IndexOutOfBoundsException.class;
    static final Class<? extends RuntimeException> ARGUMENT = IllegalArgumentException.class;
    static final Class<? extends RuntimeException> STATE = IllegalStateException.class;
    static final Class<? extends RuntimeException> REFUSED = UnsupportedOperationException.class;
    static final Class<? extends RuntimeException> NO_ELEMENT = NoSuchElementException.class;
    static final Class<? extends RuntimeException> ARITHMETIC = ArithmeticException.class;

    private final String name;
    private int looked = 0;
    private int wrong = 0;

    Check(String name) {
        this.name = name;
    }

    void due(String what, long due, Call call) {
        looked++;
        try {
            long answer = call.answer();
            if (answer != due) {
                tell(what + " answered " + answer + ", due is " + due);
            }
        } catch (RuntimeException e) {
            tell(what + " threw " + e + ", due is " + due);
        }
    }

    /** The class of the exception must be the due one itself: what the machine throws is of a class below it. */
    void fails(String what, Class<? extends RuntimeException> due, Call call) {
        looked++;
        try {
            long answer = call.answer();
            tell(what + " answered " + answer + ", due is " + due.getName());
        } catch (RuntimeException e) {
            if (e.getClass() != due) {
                tell(what + " threw " + e + ", due is " + due.getName());
            }
        }
    }

    void answers(String what, Call call) {
        looked++;
        try {
            call.answer();
        } catch (RuntimeException e) {
            tell(what + " threw " + e + ", due is an answer");
        }
    }

    /** Outside of its range the number throws what is due; at both ends the call answers. */
    void range(String what, int lowest, int highest, Class<? extends RuntimeException> due, NumberCall call) {
        outside(what, lowest, highest, due, call);
        answers(what + " " + lowest, () -> call.answer(lowest));
        answers(what + " " + highest, () -> call.answer(highest));
    }

    /** Outside of its range the number throws what is due; at both ends the call answers the number itself. */
    void rangeKept(String what, int lowest, int highest, Class<? extends RuntimeException> due, NumberCall call) {
        outside(what, lowest, highest, due, call);
        due(what + " " + lowest, lowest, () -> call.answer(lowest));
        due(what + " " + highest, highest, () -> call.answer(highest));
    }

    private void outside(String what, int lowest, int highest, Class<? extends RuntimeException> due,
            NumberCall call) {
        for (int number : new int[] {Integer.MIN_VALUE, lowest - 1, highest + 1, Integer.MAX_VALUE}) {
            fails(what + " " + number, due, () -> call.answer(number));
        }
    }

    void same(String what, String due, String answer) {
        looked++;
        if (!due.equals(answer)) {
            tell(what + " answered \"" + answer + "\", due is \"" + due + "\"");
        }
    }

    void tell(String message) {
        wrong++;
        System.out.println(name + ": " + message);
    }

    int wrong() {
        return wrong;
    }

    void end() {
        System.out.println(name + ": " + (looked - wrong) + " answers as due, " + wrong + " not");
        if (wrong != 0 || looked == 0) {
            System.exit(1);
        }
    }

    static void type(CinemaProgramme cinema, String text) {
        for (int k = 0; k < text.length(); k++) {
            cinema.append(text.charAt(k));
        }
    }

    static long flag(boolean isSo) {
        return isSo ? 1 : 0;
    }

    /** Returns what was written, read up to the first index that there is not. */
    static String written(CinemaProgramme cinema) {
        StringBuilder text = new StringBuilder();
        try {
            while (true) {
                text.append(cinema.written(text.length()));
            }
        } catch (IndexOutOfBoundsException e) {
            return text.toString();
        }
    }
}
