/** Counts the answers that are not as due; a test ends with exit code 1 if there was one. */
final class Check {
    interface Call {
        long answer();
    }

    static final String BOUNDS = "IndexOutOfBoundsException";
    static final String ARGUMENT = "IllegalArgumentException";
    static final String STATE = "IllegalStateException";

    private final String name;
    private int checks = 0;
    private int wrong = 0;

    Check(String name) {
        this.name = name;
    }

    void same(String what, Object got, Object due) {
        checks++;
        if (!due.equals(got)) {
            wrong++;
            System.out.println(name + ": " + what + " answered " + got + ", due is " + due);
        }
    }

    void is(String what, long got, long due) {
        same(what, got, due);
    }

    /** The call throws the exception of exactly this class, and leaves the object as it was. */
    void refuses(String what, MonotonePostings postings, String exception, Call call) {
        long before = postings.digest();
        same(what, outcome(call), exception);
        is(what + ", digest() after it", postings.digest(), before);
    }

    void documents(MonotonePostings x, int list, int... due) {
        is("size of list " + list, x.size(list), due.length);
        for (int i = 0; i < due.length && i < x.size(list); i++) {
            is("document " + i + " of list " + list, x.document(list, i), due[i]);
        }
    }

    /** What partition() answers for what = 0 to 5. */
    void facts(MonotonePostings x, int list, int index, int... due) {
        for (int what = 0; what < 6; what++) {
            String call = "partition(" + list + ", " + index + ", " + what + ")";
            is(call, x.partition(list, index, what), due[what]);
        }
    }

    /** The whole code of a list; spaces in what is due only part its fields. */
    void bits(MonotonePostings x, int list, String due) {
        StringBuilder got = new StringBuilder();
        int length = x.codeLength(list);
        for (int i = 0; i < length; i++) {
            got.append(x.codeBit(list, i));
        }
        same("the code of list " + list, got.toString(), due.replace(" ", ""));
    }

    void counters(MonotonePostings x, String when, int reads, int hits, int cached) {
        is("reads() " + when, x.reads(), reads);
        is("hits() " + when, x.hits(), hits);
        is("cached() " + when, x.cached(), cached);
    }

    void cache(MonotonePostings x, String when, int... due) {
        is("cached() " + when, x.cached(), due.length);
        for (int i = 0; i < due.length && i < x.cached(); i++) {
            is("cachedAt(" + i + ") " + when, x.cachedAt(i), due[i]);
        }
    }

    void hash(MonotonePostings x, String when, int... values) {
        long h = 2791;
        for (int v : values) {
            h = 31 * h + v;
        }
        is("digest() " + when, x.digest(), h);
    }

    static String outcome(Call call) {
        try {
            return Long.toString(call.answer());
        } catch (RuntimeException e) {
            return e.getClass().getSimpleName();
        }
    }

    void end() {
        System.out.println(name + ": " + checks + " checks, " + wrong + " wrong");
        if (wrong != 0) {
            System.exit(1);
        }
    }
}
