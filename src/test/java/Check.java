/** Counts the answers that are not as due; a test ends with exit code 1 if there was one. */
final class Check {
    interface Call {
        long answer();
    }

    static final String BOUNDS = "IndexOutOfBoundsException";
    static final String ARGUMENT = "IllegalArgumentException";
    static final String STATE = "IllegalStateException";

    private final String name;
    private int checks = 0;
    private int wrong = 0;

    Check(String name) {
        this.name = name;
    }

    void same(String what, Object got, Object due) {
        checks++;
        if (!due.equals(got)) {
            wrong++;
            System.out.println(name + ": " + what + " answered " + got + ", due is " + due);
        }
    }

    void is(String what, long got, long due) {
        same(what, got, due);
    }

    /** The call throws the exception of exactly this class, and leaves the object as it was. */
    void refuses(String what, MonotonePostings postings, String exception, Call call) {
        long before = postings.digest();
        same(what, outcome(call), exception);
        is(what + ", digest() after it", postings.digest(), before);
    }

    static String outcome(Call call) {
        try {
            return Long.toString(call.answer());
        } catch (RuntimeException e) {
            return e.getClass().getSimpleName();
        }
    }

    void end() {
        System.out.println(name + ": " + checks + " checks, " + wrong + " wrong");
        if (wrong != 0) {
            System.exit(1);
        }
    }
}
