/** Compares answers with what is due, and ends the program with exit code 1 if one was wrong. */
final class Expect {
    static final Class<IllegalArgumentException> ARGUMENT = IllegalArgumentException.class;
    static final Class<IllegalStateException> STATE = IllegalStateException.class;
    static final Class<UnsupportedOperationException> UNSUPPORTED = UnsupportedOperationException.class;
    static final Class<IndexOutOfBoundsException> INDEX = IndexOutOfBoundsException.class;

    interface Call {
        long answer();
    }

    private int compared;
    private int wrong;

    void is(String what, long due, Call call) {
        compare(what, Long.toString(due), answerOf(call));
    }

    void is(String what, boolean due, boolean got) {
        compare(what, Boolean.toString(due), Boolean.toString(got));
    }

    void throwing(String what, Class<? extends RuntimeException> due, Call call) {
        compare(what, due.getName(), answerOf(call));
    }

    void compare(String what, String due, String got) {
        compared++;
        if (!due.equals(got)) {
            wrong++;
            System.out.println(what + " answered " + got + ", due is " + due);
        }
    }

    static String answerOf(Call call) {
        try {
            return Long.toString(call.answer());
        } catch (RuntimeException e) {
            return e.getClass().getName();
        }
    }

    void finish() {
        System.out.println(compared + " answers, " + wrong + " not as due");
        if (wrong != 0 || compared == 0) {
            System.exit(1);
        }
    }
}
