/** Compares answers with those that are due, and counts the wrong ones. */
final class Check {
    private static int wrong = 0;

    private Check() {
    }

    interface Call {
        Object answer();
    }

    static void equal(String what, Object got, Object due) {
        if (!due.equals(got)) {
            wrong++;
            System.out.println(what + " answered " + got + ", due is " + due);
        }
    }

    /** The exception must be of the very class: the machine's own ones stand below the document's. */
    static void thrown(String what, Class<? extends RuntimeException> due, Call call) {
        equal(what, outcome(call), due.getName());
    }

    /** The answer of a call, or the name of the class of the exception that it throws. */
    static Object outcome(Call call) {
        try {
            return call.answer();
        } catch (RuntimeException e) {
            return e.getClass().getName();
        }
    }

    static int wrongOnes() {
        return wrong;
    }

    static void finish() {
        if (wrong != 0) {
            System.out.println(wrong + " answers are not as due");
            System.exit(1);
        }
    }
}
