/** Counts and prints the answers that are not as due. */
final class Check {
    interface Call {
        Object answer();
    }

    private int checked = 0;
    private int wrong = 0;
    private String sentence = "";

    /** What the test looks at is due by this sentence of the document; it has to look at something. */
    void sentence(String words, Runnable test) {
        int before = checked;
        sentence = "\"" + words + "\": ";
        try {
            test.run();
        } catch (RuntimeException | AssertionError e) {
            // So that the sentences behind this one are looked at, too.
            wrong++;
            System.out.println(sentence + "stopped by " + e);
        }
        if (checked == before) {
            wrong++;
            System.out.println(sentence + "no answer looked at");
        }
        sentence = "";
    }

    /** The answer is due, or, if the text starts with "throws.", an exception of just this class. */
    void due(String what, Object want, Call call) {
        Object got;
        try {
            got = call.answer();
        } catch (RuntimeException e) {
            got = "throws." + e.getClass().getSimpleName();
        }
        checked++;
        if (!got.equals(want)) {
            wrong++;
            System.out.println(sentence + what + " answered " + got + ", due is " + want);
        }
    }

    void end() {
        System.out.println(checked + " answers looked at, " + wrong + " not as due");
        if (wrong != 0 || checked == 0) {
            System.exit(1);
        }
    }
}
