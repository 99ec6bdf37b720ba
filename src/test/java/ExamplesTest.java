/** The document's five examples, call by call. */
public final class ExamplesTest {
    private static final Check CHECK = new Check("ExamplesTest");

    public static void main(String[] args) {
        runAndEliasFano();
        bitmapAndHit();
        intersectionByQueries();
        queryWithoutAnswer();
        exceptions();
        CHECK.end();
    }

    private static void runAndEliasFano() {
        MonotonePostings x = new MonotonePostings();
        CHECK.is("appendRange(0, 5, 1, 21)", x.appendRange(0, 5, 1, 21), 21);
        CHECK.is("appendRange(0, 100, 37, 6)", x.appendRange(0, 100, 37, 6), 27);
        CHECK.is("partitions(0)", x.partitions(0), 2);
        CHECK.is("partition(0, 0, 0)", x.partition(0, 0, 0), 0);
        CHECK.is("partition(0, 0, 4)", x.partition(0, 0, 4), 26);
        CHECK.is("partition(0, 1, 0)", x.partition(0, 1, 0), 2);
        CHECK.is("codeLength(0)", x.codeLength(0), 94);
        CHECK.is("nextAtLeast(0, 30)", x.nextAtLeast(0, 30), 100);
        CHECK.is("reads()", x.reads(), 2);
    }

    private static void bitmapAndHit() {
        MonotonePostings x = new MonotonePostings();
        CHECK.is("appendRange(1, 3, 3, 30)", x.appendRange(1, 3, 3, 30), 30);
        CHECK.is("nextAtLeast(1, 40)", x.nextAtLeast(1, 40), 42);
        CHECK.is("reads()", x.reads(), 2);
        CHECK.is("nextAtLeast(1, 41)", x.nextAtLeast(1, 41), 42);
        CHECK.is("reads()", x.reads(), 3);
        CHECK.is("hits()", x.hits(), 1);
    }

    private static void intersectionByQueries() {
        MonotonePostings x = new MonotonePostings();
        CHECK.is("appendRange(0, 0, 2, 20)", x.appendRange(0, 0, 2, 20), 20);
        CHECK.is("appendRange(1, 0, 3, 20)", x.appendRange(1, 0, 3, 20), 20);
        CHECK.is("intersect(3, 2)", x.intersect(3, 2), 7);
        CHECK.is("size(2)", x.size(2), 7);
        CHECK.is("document(2, 1)", x.document(2, 1), 6);
        CHECK.is("reads()", x.reads(), 43);
    }

    private static void queryWithoutAnswer() {
        MonotonePostings x = new MonotonePostings();
        CHECK.is("append(0, 7)", x.append(0, 7), 1);
        CHECK.is("nextAtLeast(0, 8)", x.nextAtLeast(0, 8), -1);
        CHECK.is("reads()", x.reads(), 1);
        CHECK.is("cached()", x.cached(), 0);
    }

    private static void exceptions() {
        MonotonePostings x = new MonotonePostings();
        CHECK.refuses("append(0, 512)", x, Check.ARGUMENT, () -> x.append(0, 512));
        CHECK.is("append(0, 5)", x.append(0, 5), 1);
        CHECK.refuses("append(0, 5)", x, Check.ARGUMENT, () -> x.append(0, 5));
        CHECK.is("undo()", x.undo(), 0);
        CHECK.refuses("undo()", x, Check.STATE, x::undo);
    }
}
