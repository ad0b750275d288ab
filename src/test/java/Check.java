/** Counts answers that are not as due; every test of this project prints and ends by it. */
final class Check {
    interface Answer {
        long get();
    }

    private final String name;
    private int right = 0;
    private int wrong = 0;

    Check(String name) {
        this.name = name;
    }

    void same(String what, long want, long got) {
        if (got == want) {
            right++;
        } else {
            fault(what + " answered " + got + ", due is " + want);
        }
    }

    void same(String what, String want, String got) {
        if (want.equals(got)) {
            right++;
        } else {
            fault(what + "\n  answered " + got + "\n  due is   " + want);
        }
    }

    void fails(String what, Class<? extends RuntimeException> want, Answer call) {
        same(what, "throws " + want.getSimpleName(), outcome(call));
    }

    /** An answer or the very class of an exception, as a text. */
    static String outcome(Answer call) {
        try {
            return String.valueOf(call.get());
        } catch (RuntimeException e) {
            return "throws " + e.getClass().getSimpleName();
        }
    }

    int asked() {
        return right + wrong;
    }

    void fault(String what) {
        wrong++;
        if (wrong <= 20) {
            System.out.println(name + ": " + what);
        }
    }

    void end() {
        System.out.println(name + ": " + right + " as due, " + wrong + " not");
        if (wrong != 0 || right == 0) {
            System.exit(1);
        }
    }
}
