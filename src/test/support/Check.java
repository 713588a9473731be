/** Counts and prints the answers that are not as due. */
final class Check {
    interface Call {
        Object answer();
    }

    private int checked = 0;
    private int wrong = 0;

    /** The answer is due, or, if the text starts with "throws.", an exception of just this class. */
    void due(String what, Object want, Call call) {
        Object got;
        try {
            got = call.answer();
        } catch (RuntimeException e) {
            got = "throws." + e.getClass().getSimpleName();
        }
        checked++;
        if (!got.equals(want)) {
            wrong++;
            System.out.println(what + " answered " + got + ", due is " + want);
        }
    }

    void end() {
        System.out.println(checked + " answers looked at, " + wrong + " not as due");
        if (wrong != 0 || checked == 0) {
            System.exit(1);
        }
    }
}
