/** Counts and prints the answers of one test that are not the due ones. */
final class Check {
    /** A call whose answer, or whose exception, is looked at. */
    interface Call {
        Object answer();
    }

    private final String test;
    private int wrong = 0;
    private int looked = 0;

    Check(String test) {
        this.test = test;
    }

    void same(String what, Object due, Call call) {
        String got = told(call);
        looked++;
        if (!got.equals(String.valueOf(due))) {
            wrong++;
            System.out.println(test + ": " + what + " answered " + got + ", due is " + due);
        }
    }

    /** The exception has to be of this very class: a class below it comes from the machine. */
    void thrown(String what, Class<? extends RuntimeException> due, Call call) {
        same(what, "throws " + due.getSimpleName(), call);
    }

    static String told(Call call) {
        try {
            return String.valueOf(call.answer());
        } catch (RuntimeException e) {
            return "throws " + e.getClass().getSimpleName();
        }
    }

    void end() {
        if (wrong > 0) {
            System.out.println(test + ": " + wrong + " of " + looked + " answers are not as due");
            System.exit(1);
        }
    }
}
