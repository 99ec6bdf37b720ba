/**
 * The boundary cases of "Next-at-least queries" and of the promises 14, 19 and 20; above each test
 * stands its sentence.
 */
public final class QueryBoundaryTest {
    private static final Check CHECK = new Check("QueryBoundaryTest");
    private static final int NONE = MonotonePostings.NONE;

    public static void main(String[] args) {
        queriedRange();
        atLeast();
        headersUpToThePartition();
        noSuchPartition();
        emptyList();
        atMostTheFirst();
        hitInEachKind();
        runWithoutReads();
        bitmapBytes();
        bitmapFromOddPlace();
        eliasFanoOwnHighPart();
        eliasFanoNoSuchHighPart();
        sinceTheBeginning();
        CHECK.end();
    }

    /** A query to a new object with these documents in list 0, with its reads. */
    private static void query(int[] documents, int x, int answer, int reads, int cached) {
        MonotonePostings index = new MonotonePostings();
        for (int document : documents) {
            index.append(0, document);
        }
        CHECK.is("nextAtLeast(0, " + x + ")", index.nextAtLeast(0, x), answer);
        CHECK.counters(index, "after " + x, reads, 0, cached);
    }

    /** nextAtLeast: x is 0 to 511, "if x is out of range". */
    private static void queriedRange() {
        MonotonePostings x = Scenes.full();
        CHECK.is("nextAtLeast(2, 0)", x.nextAtLeast(2, 0), 0);
        CHECK.is("nextAtLeast(1, 0)", x.nextAtLeast(1, 0), 448);
        CHECK.is("nextAtLeast(1, 511)", x.nextAtLeast(1, 511), 511);
        CHECK.is("nextAtLeast(0, 511)", x.nextAtLeast(0, 511), NONE);
        for (int wrong : new int[] {-1, 512, Integer.MIN_VALUE, Integer.MAX_VALUE}) {
            CHECK.refuses("nextAtLeast(1, " + wrong + ")", x, Check.ARGUMENT, () -> x.nextAtLeast(1, wrong));
            CHECK.refuses("nextAtLeast(3, " + wrong + ")", x, Check.ARGUMENT, () -> x.nextAtLeast(3, wrong));
        }
    }

    /** "the smallest document of the list that is at least x": x itself, and one more than it. */
    private static void atLeast() {
        MonotonePostings x = Scenes.threeKinds();
        int[][] due = {{0, 1, 1}, {0, 19, 19}, {0, 20, NONE}, {1, 6, 6}, {1, 7, 9}, {1, 90, 90},
            {1, 91, NONE}, {2, 137, 137}, {2, 138, 174}, {2, 285, 285}, {2, 286, NONE}};
        for (int[] d : due) {
            CHECK.is("nextAtLeast(" + d[0] + ", " + d[1] + ")", x.nextAtLeast(d[0], d[1]), d[2]);
        }
    }

    /** "up to the first partition whose last document is at least x; each header is one read". */
    private static void headersUpToThePartition() {
        int[][] due = {{14, 14, 1}, {15, 100, 2}, {114, 114, 2}, {115, 200, 3}, {299, 300, 4},
            {314, 314, 4}};
        for (int[] d : due) {
            MonotonePostings x = Scenes.fourRuns();
            CHECK.is("nextAtLeast(2, " + d[0] + ")", x.nextAtLeast(2, d[0]), d[1]);
            CHECK.is("reads() after " + d[0], x.reads(), d[2]);
        }
    }

    /** "(if there is no such partition, all headers are read, and there is no answer)". */
    private static void noSuchPartition() {
        MonotonePostings x = Scenes.fourRuns();
        CHECK.is("nextAtLeast(2, 315)", x.nextAtLeast(2, 315), NONE);
        CHECK.counters(x, "behind the last document", 4, 0, 0);
        CHECK.is("nextAtLeast(2, 511)", x.nextAtLeast(2, 511), NONE);
        CHECK.counters(x, "behind the last document again", 8, 0, 0);
        CHECK.is("NONE", NONE, -1);
    }

    /** The same for an empty list, which has no headers. */
    private static void emptyList() {
        MonotonePostings x = new MonotonePostings();
        CHECK.is("nextAtLeast(0, 0)", x.nextAtLeast(0, 0), NONE);
        CHECK.is("nextAtLeast(3, 511)", x.nextAtLeast(3, 511), NONE);
        CHECK.counters(x, "of an empty list", 0, 0, 0);
    }

    /** "If x is at most the first document .. without further reads. Otherwise the partition is opened." */
    private static void atMostTheFirst() {
        int[] bitmap = {10, 12, 14};
        query(bitmap, 0, 10, 1, 0);
        query(bitmap, 9, 10, 1, 0);
        query(bitmap, 10, 10, 1, 0);
        query(bitmap, 11, 12, 2, 1);
        int[] eliasFano = {100, 400};
        query(eliasFano, 99, 100, 1, 0);
        query(eliasFano, 100, 100, 1, 0);
        query(eliasFano, 101, 400, 4, 1);
        int[] run = {7, 8};
        query(run, 7, 7, 1, 0);
        query(run, 8, 8, 1, 1);
        // Partitions are cached, but x is before them: no hit, and their order stays.
        MonotonePostings x = Scenes.fourRuns();
        x.nextAtLeast(0, 101);
        x.nextAtLeast(0, 1);
        x.nextAtLeast(0, 100);
        x.nextAtLeast(0, 99);
        CHECK.counters(x, "before cached partitions", 2 + 1 + 2 + 2, 0, 2);
        CHECK.cache(x, "before cached partitions", 1, 0);
    }

    /** "If it is in the cache, this is a hit, and there are no further reads". */
    private static void hitInEachKind() {
        // The list, x, the answer, and the reads without the cache.
        int[][] due = {{0, 1, 1, 1}, {1, 40, 42, 2}, {2, 101, 137, 4}};
        for (int[] d : due) {
            MonotonePostings x = Scenes.threeKinds();
            CHECK.is("the first query", x.nextAtLeast(d[0], d[1]), d[2]);
            CHECK.counters(x, "after the first query", d[3], 0, 1);
            CHECK.is("the second query", x.nextAtLeast(d[0], d[1]), d[2]);
            CHECK.counters(x, "after the second query", d[3] + 1, 1, 1);
            CHECK.is("the third query", x.nextAtLeast(d[0], d[1]), d[2]);
            CHECK.counters(x, "after the third query", d[3] + 2, 2, 1);
        }
    }

    /** "if not, the reads are: for a run none": at both ends of it. */
    private static void runWithoutReads() {
        for (int asked : new int[] {449, 480, 511}) {
            MonotonePostings x = Scenes.full();
            CHECK.is("nextAtLeast(1, " + asked + ")", x.nextAtLeast(1, asked), asked);
            CHECK.counters(x, "in a run", 1, 0, 1);
        }
    }

    /** "from the one that contains bit x - f to the one that contains the bit of the answer, both included". */
    private static void bitmapBytes() {
        // Eight in 32 places are a bitmap; the reads are the header and 1 or 2 bytes.
        int[] documents = {0, 7, 8, 15, 16, 20, 30, 31};
        int[][] due = {{1, 7, 2}, {7, 7, 2}, {8, 8, 2}, {9, 15, 2}, {15, 15, 2}, {16, 16, 2},
            {17, 20, 2}, {21, 30, 3}, {23, 30, 3}, {24, 30, 2}, {31, 31, 2}};
        for (int[] d : due) {
            query(documents, d[0], d[1], d[2], 1);
        }
        // From the first byte to the third, and to the second by one bit only.
        int[] far = {0, 1, 2, 3, 4, 5, 16, 17};
        query(far, 6, 16, 4, 1);
        query(far, 8, 16, 3, 1);
        int[] near = {0, 1, 2, 3, 4, 5, 8, 9};
        query(near, 7, 8, 3, 1);
        query(near, 6, 8, 3, 1);
    }

    /** "byte k consists of the bits 8 * k to 8 * k + 7 of the partition": not of the documents. */
    private static void bitmapFromOddPlace() {
        int[] documents = {5, 12, 13, 20, 21};
        query(documents, 6, 12, 2, 1);
        query(documents, 13, 13, 2, 1);
        query(documents, 14, 20, 2, 1);
        query(documents, 21, 21, 2, 1);
        // The second partition's bits count from its own first document.
        MonotonePostings x = new MonotonePostings();
        x.appendRange(0, 0, 1, 20);
        x.appendRange(0, 203, 3, 8);
        CHECK.is("kind of the second partition", x.partition(0, 1, 0), 1);
        CHECK.is("nextAtLeast(0, 210)", x.nextAtLeast(0, 210), 212);
        CHECK.is("reads() of two headers and two bytes", x.reads(), 4);
    }

    // One partition with w = 6; the high parts are 0, then 4 for four documents, and 7.
    private static final int[] IN_ONE_BUCKET = {0, 300, 301, 302, 303, 511};

    /** "the first one whose high part is at least the high part of x - f up to the answer, both included". */
    private static void eliasFanoOwnHighPart() {
        // The header, 1, and the documents of the high part before x, too.
        int[][] due = {{1, 300, 4}, {63, 300, 4}, {256, 300, 3}, {300, 300, 3}, {301, 301, 4},
            {303, 303, 6}, {304, 511, 7}, {319, 511, 7}, {448, 511, 3}, {511, 511, 3}};
        for (int[] d : due) {
            query(IN_ONE_BUCKET, d[0], d[1], d[2], 1);
        }
        // Differences, not documents, have the high part: the same 30 places later.
        int[] later = {30, 330, 331, 332, 333, 511};
        query(later, 333, 333, 6, 1);
        query(later, 349, 511, 7, 1);
        query(later, 350, 511, 3, 1);
    }

    /** The same where no document has the high part of x - f. */
    private static void eliasFanoNoSuchHighPart() {
        int[][] due = {{64, 300, 3}, {255, 300, 3}, {320, 511, 3}, {447, 511, 3}};
        for (int[] d : due) {
            query(IN_ONE_BUCKET, d[0], d[1], d[2], 1);
        }
    }

    /** "Returns the number of reads since the beginning.", and of hits: no change of a list resets it. */
    private static void sinceTheBeginning() {
        MonotonePostings x = Scenes.threeKinds();
        CHECK.counters(x, "before the first query", 0, 0, 0);
        x.nextAtLeast(1, 40);
        x.nextAtLeast(1, 40);
        x.clear(1);
        x.append(2, 400);
        x.setCapacity(0);
        x.unite(0, 2, 1);
        CHECK.counters(x, "after changes", 3, 1, 0);
    }
}
