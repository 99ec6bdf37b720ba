/**
 * The 25 promises, a method each: ordinary inputs, the edges that the document names, and wrong
 * inputs. The numbers here are worked out by hand from the document.
 */
public final class PromisesTest {
    private static final Check CHECK = new Check("PromisesTest");
    private static final int[] NO_LIST = {-1, 4, 5, Integer.MIN_VALUE, Integer.MAX_VALUE};

    public static void main(String[] args) {
        newObject();
        append();
        appendRange();
        clear();
        size();
        document();
        rank();
        partitions();
        partition();
        codeLength();
        codeBit();
        fixedLength();
        bitsPerDocument();
        nextAtLeast();
        nextAtLeastInBitmap();
        nextAtLeastInEliasFano();
        countIntersection();
        intersectionOrder();
        intersect();
        unite();
        subtract();
        reads();
        hits();
        setCapacity();
        cached();
        cachedAt();
        undo();
        undoOfEachMethod();
        digest();
        CHECK.end();
    }

    private static void newObject() {
        MonotonePostings x = new MonotonePostings();
        for (int list = 0; list < 4; list++) {
            CHECK.is("size of a new list", x.size(list), 0);
            CHECK.is("partitions of a new list", x.partitions(list), 0);
        }
        CHECK.counters(x, "of a new object", 0, 0, 0);
        CHECK.is("the first capacity", x.setCapacity(8), 4);
        CHECK.is("NONE", MonotonePostings.NONE, -1);
        CHECK.hash(new MonotonePostings(), "of a new object", 0, 0, 0, 0, 0, 0, 0, 0, 4, 0, 0, 0, 0);
        MonotonePostings y = new MonotonePostings();
        y.append(0, 1);
        CHECK.is("another object's list", x.size(0), 0);
    }

    private static void append() {
        MonotonePostings x = new MonotonePostings();
        for (int list : NO_LIST) {
            CHECK.refuses("append to no list", x, Check.BOUNDS, () -> x.append(list, -1));
        }
        CHECK.is("append(3, 0)", x.append(3, 0), 1);
        CHECK.is("append(3, 511)", x.append(3, 511), 2);
        CHECK.documents(x, 3, 0, 511);
        for (int wrong : new int[] {-1, 512, 511, 510, 0, Integer.MIN_VALUE, Integer.MAX_VALUE}) {
            CHECK.refuses("append(3, " + wrong + ")", x, Check.ARGUMENT, () -> x.append(3, wrong));
        }
        for (int i = 0; i < 64; i++) {
            CHECK.is("append(0, " + 2 * i + ")", x.append(0, 2 * i), i + 1);
        }
        CHECK.refuses("append to a full list", x, Check.STATE, () -> x.append(0, 127));
        CHECK.refuses("append too little to a full list", x, Check.ARGUMENT, () -> x.append(0, 126));
        CHECK.refuses("append too much to a full list", x, Check.ARGUMENT, () -> x.append(0, 512));
        x.nextAtLeast(0, 1);
        x.nextAtLeast(3, 1);
        CHECK.is("cached() before append", x.cached(), 2);
        x.undo();
        x.undo();
        x.undo();
        x.nextAtLeast(0, 1);
        x.nextAtLeast(3, 1);
        x.append(0, 400);
        CHECK.is("cached() after append", x.cached(), 1);
        CHECK.is("cachedAt(0) after append", x.cachedAt(0), 300);
    }

    private static void appendRange() {
        MonotonePostings x = new MonotonePostings();
        for (int list : NO_LIST) {
            CHECK.refuses("appendRange to no list", x, Check.BOUNDS, () -> x.appendRange(list, -1, 0, 0));
        }
        int[][] wrong = {{-1, 1, 1}, {512, 1, 1}, {0, 0, 1}, {0, 512, 1}, {0, -1, 1}, {0, 1, 0},
            {0, 1, 65}, {0, 1, -1}, {1, 511, 2}, {0, 9, 58}, {500, 12, 2}, {449, 1, 64},
            {Integer.MAX_VALUE, 1, 2}, {0, Integer.MAX_VALUE, 3}, {0, 511, Integer.MAX_VALUE},
            {Integer.MIN_VALUE, 1, 1}, {0, 1, Integer.MIN_VALUE}, {0, 1 << 30, 5}};
        for (int[] a : wrong) {
            String call = "appendRange(0, " + a[0] + ", " + a[1] + ", " + a[2] + ")";
            CHECK.refuses(call, x, Check.ARGUMENT, () -> x.appendRange(0, a[0], a[1], a[2]));
        }
        CHECK.is("appendRange(0, 0, 511, 2)", x.appendRange(0, 0, 511, 2), 2);
        CHECK.is("appendRange(1, 448, 1, 64)", x.appendRange(1, 448, 1, 64), 64);
        CHECK.is("appendRange(2, 511, 511, 1)", x.appendRange(2, 511, 511, 1), 1);
        CHECK.is("appendRange(3, 7, 8, 3)", x.appendRange(3, 7, 8, 3), 3);
        CHECK.is("appendRange(3, 24, 1, 2)", x.appendRange(3, 24, 1, 2), 5);
        CHECK.documents(x, 3, 7, 15, 23, 24, 25);
        CHECK.refuses("appendRange from the last", x, Check.ARGUMENT, () -> x.appendRange(3, 25, 1, 1));
        CHECK.refuses("appendRange, 65 in all", x, Check.STATE, () -> x.appendRange(3, 26, 1, 60));
        CHECK.refuses("appendRange, last first", x, Check.ARGUMENT, () -> x.appendRange(3, 25, 1, 60));
        CHECK.is("appendRange, 64 in all", x.appendRange(3, 26, 1, 59), 64);
        CHECK.is("document(3, 63)", x.document(3, 63), 84);
    }

    private static void clear() {
        MonotonePostings x = new MonotonePostings();
        for (int list : NO_LIST) {
            CHECK.refuses("clear of no list", x, Check.BOUNDS, () -> x.clear(list));
        }
        x.appendRange(1, 2, 3, 20);
        x.appendRange(2, 2, 3, 20);
        x.nextAtLeast(1, 3);
        x.nextAtLeast(2, 3);
        CHECK.is("clear(1)", x.clear(1), 20);
        CHECK.is("size(1)", x.size(1), 0);
        CHECK.is("partitions(1)", x.partitions(1), 0);
        CHECK.is("cached() after clear", x.cached(), 1);
        CHECK.is("cachedAt(0) after clear", x.cachedAt(0), 200);
        CHECK.is("clear(1), empty", x.clear(1), 0);
        CHECK.is("append after clear", x.append(1, 0), 1);
        CHECK.is("undo()", x.undo(), 3);
        CHECK.is("undo() of the clear that changed nothing", x.undo(), 2);
        CHECK.is("undo() of the clear", x.undo(), 1);
        CHECK.is("size(1) again", x.size(1), 20);
        CHECK.is("cached() again", x.cached(), 2);
    }

    private static void size() {
        MonotonePostings x = new MonotonePostings();
        for (int list : NO_LIST) {
            CHECK.refuses("size of no list", x, Check.BOUNDS, () -> x.size(list));
        }
        x.appendRange(3, 0, 1, 64);
        CHECK.is("size(3)", x.size(3), 64);
        CHECK.is("size(0)", x.size(0), 0);
    }

    private static void document() {
        MonotonePostings x = new MonotonePostings();
        for (int list : NO_LIST) {
            CHECK.refuses("document of no list", x, Check.BOUNDS, () -> x.document(list, 0));
        }
        CHECK.refuses("document(0, 0), empty", x, Check.BOUNDS, () -> x.document(0, 0));
        x.appendRange(0, 10, 20, 5);
        CHECK.documents(x, 0, 10, 30, 50, 70, 90);
        for (int index : new int[] {-1, 5, 64, Integer.MIN_VALUE, Integer.MAX_VALUE}) {
            CHECK.refuses("document(0, " + index + ")", x, Check.BOUNDS, () -> x.document(0, index));
        }
        CHECK.is("reads() after document", x.reads(), 0);
    }

    private static void rank() {
        MonotonePostings x = new MonotonePostings();
        for (int list : NO_LIST) {
            CHECK.refuses("rank in no list", x, Check.BOUNDS, () -> x.rank(list, -1));
        }
        CHECK.is("rank(2, 512), empty", x.rank(2, 512), 0);
        x.appendRange(2, 0, 73, 8);
        int[][] due = {{0, 0}, {1, 1}, {73, 1}, {74, 2}, {511, 7}, {512, 8}};
        for (int[] d : due) {
            CHECK.is("rank(2, " + d[0] + ")", x.rank(2, d[0]), d[1]);
        }
        for (int wrong : new int[] {-1, 513, Integer.MIN_VALUE, Integer.MAX_VALUE}) {
            CHECK.refuses("rank(2, " + wrong + ")", x, Check.ARGUMENT, () -> x.rank(2, wrong));
        }
        CHECK.is("reads() after rank", x.reads(), 0);
    }

    private static void partitions() {
        MonotonePostings x = new MonotonePostings();
        for (int list : NO_LIST) {
            CHECK.refuses("partitions of no list", x, Check.BOUNDS, () -> x.partitions(list));
        }
        CHECK.is("partitions(0), empty", x.partitions(0), 0);
        x.append(0, 511);
        CHECK.is("partitions(0), one document", x.partitions(0), 1);
        x.appendRange(1, 0, 1, 16);
        x.appendRange(1, 100, 1, 16);
        x.appendRange(1, 200, 1, 16);
        x.appendRange(1, 300, 1, 16);
        CHECK.is("partitions(1), four runs", x.partitions(1), 4);
        // 13 documents in 25 places: as one bitmap 26 + 25 bits, less than two headers.
        x.appendRange(2, 0, 1, 6);
        x.appendRange(2, 18, 1, 7);
        CHECK.is("partitions(2), one bitmap", x.partitions(2), 1);
        // 26 documents in 26 + gap places: two runs have 52 bits, as the bitmap of 26 places has.
        x.appendRange(3, 0, 1, 13);
        x.appendRange(3, 14, 1, 12);
        CHECK.is("partitions(3), the fewest of equal ones", x.partitions(3), 1);
        x.append(3, 26);
        CHECK.is("partitions(3), one bit more", x.partitions(3), 2);
        // 2 to 8 and then 16 and 89: 16 can go with either for 67 bits, so the run stays short.
        x.clear(0);
        x.appendRange(0, 2, 1, 7);
        x.appendRange(0, 16, 73, 2);
        CHECK.is("codeLength(0), two possibilities", x.codeLength(0), 67);
        CHECK.is("partitions(0), two possibilities", x.partitions(0), 2);
        CHECK.is("partition(0, 0, 1), the fewest documents", x.partition(0, 0, 1), 7);
    }

    private static void partition() {
        MonotonePostings x = new MonotonePostings();
        for (int list : NO_LIST) {
            CHECK.refuses("partition of no list", x, Check.BOUNDS, () -> x.partition(list, 0, 9));
        }
        CHECK.refuses("partition(0, 0, 0), empty", x, Check.BOUNDS, () -> x.partition(0, 0, 0));
        x.appendRange(0, 5, 1, 21);
        x.appendRange(0, 100, 37, 6);
        x.appendRange(1, 3, 3, 30);
        CHECK.facts(x, 0, 0, 0, 21, 5, 25, 26, 0);
        CHECK.facts(x, 0, 1, 2, 6, 100, 285, 68, 4);
        CHECK.facts(x, 1, 0, 1, 30, 3, 90, 114, 0);
        for (int index : new int[] {-1, 2, 64, Integer.MIN_VALUE, Integer.MAX_VALUE}) {
            CHECK.refuses("partition(0, " + index + ", 6)", x, Check.BOUNDS, () -> x.partition(0, index, 6));
        }
        for (int what : new int[] {-1, 6, Integer.MIN_VALUE, Integer.MAX_VALUE}) {
            CHECK.refuses("partition(0, 1, " + what + ")", x, Check.ARGUMENT, () -> x.partition(0, 1, what));
        }
        // 6 in 16 places: w = 1, so Elias-Fano has 6 + 7 + 1 + 6 = 20 bits, the bitmap 16.
        x.appendRange(2, 0, 3, 6);
        CHECK.facts(x, 2, 0, 1, 6, 0, 15, 42, 0);
        // 2 in 512 places: w = 8, 2 + 1 + 1 + 16 = 20 bits.
        x.appendRange(3, 0, 511, 2);
        CHECK.facts(x, 3, 0, 2, 2, 0, 511, 46, 8);
        // 2 in 8 places: w = 2, 2 + 1 + 1 + 4 = 8 bits in both kinds, and the lower one is chosen;
        // in 10 places Elias-Fano has 2 + 2 + 1 + 4 = 9 bits.
        x.clear(3);
        x.appendRange(3, 10, 7, 2);
        CHECK.facts(x, 3, 0, 1, 2, 10, 17, 34, 0);
        x.clear(3);
        x.appendRange(3, 10, 9, 2);
        CHECK.facts(x, 3, 0, 2, 2, 10, 19, 35, 2);
    }

    private static void codeLength() {
        MonotonePostings x = new MonotonePostings();
        for (int list : NO_LIST) {
            CHECK.refuses("codeLength of no list", x, Check.BOUNDS, () -> x.codeLength(list));
        }
        CHECK.is("codeLength(3), empty", x.codeLength(3), 0);
        x.append(3, 9);
        CHECK.is("codeLength(3), one document", x.codeLength(3), 26);
        x.appendRange(0, 1, 8, 64);
        CHECK.is("codeLength(0), 64 documents", x.codeLength(0), 345);
    }

    private static void codeBit() {
        MonotonePostings x = new MonotonePostings();
        for (int list : NO_LIST) {
            CHECK.refuses("codeBit of no list", x, Check.BOUNDS, () -> x.codeBit(list, 0));
        }
        CHECK.refuses("codeBit(0, 0), empty", x, Check.BOUNDS, () -> x.codeBit(0, 0));
        // A run of 21 documents from 5 on.
        x.appendRange(0, 5, 1, 21);
        CHECK.bits(x, 0, "00 001010 101000000 001010000");
        // Behind it 6 documents from 100 to 285, w = 4: the high parts of 0, 37, 74, 111, 148 and
        // 185 are 0, 2, 4, 6, 9 and 11, the low parts 0, 5, 10, 15, 4 and 9.
        x.appendRange(0, 100, 37, 6);
        CHECK.bits(x, 0, "00 001010 101000000 001010000"
                + "01 101000 001001100 100111010 100100100100010010 0000 1010 0101 1111 0010 1001");
        // A bitmap of 4 documents from 6 to 11.
        x.append(1, 6);
        x.appendRange(1, 8, 1, 2);
        x.append(1, 11);
        CHECK.bits(x, 1, "10 110000 011000000 101000000 101101");
        for (int index : new int[] {-1, 32, 600, Integer.MIN_VALUE, Integer.MAX_VALUE}) {
            CHECK.refuses("codeBit(1, " + index + ")", x, Check.BOUNDS, () -> x.codeBit(1, index));
        }
        CHECK.is("reads() after codeBit", x.reads(), 0);
    }

    private static void fixedLength() {
        MonotonePostings x = new MonotonePostings();
        for (int list : NO_LIST) {
            CHECK.refuses("fixedLength of no list", x, Check.BOUNDS, () -> x.fixedLength(list, 0));
        }
        CHECK.is("fixedLength(0, 1), empty", x.fixedLength(0, 1), 0);
        for (int wrong : new int[] {0, -1, 65, Integer.MIN_VALUE, Integer.MAX_VALUE}) {
            CHECK.refuses("fixedLength(0, " + wrong + ")", x, Check.ARGUMENT, () -> x.fixedLength(0, wrong));
        }
        x.appendRange(0, 5, 1, 21);
        x.appendRange(0, 100, 37, 6);
        CHECK.is("fixedLength(0, 1)", x.fixedLength(0, 1), 27 * 26);
        CHECK.is("fixedLength(0, 9)", x.fixedLength(0, 9), 140);
        CHECK.is("fixedLength(0, 21)", x.fixedLength(0, 21), 94);
        CHECK.is("fixedLength(0, 27)", x.fixedLength(0, 27), 170);
        CHECK.is("fixedLength(0, 64)", x.fixedLength(0, 64), 170);
    }

    private static void bitsPerDocument() {
        MonotonePostings x = new MonotonePostings();
        for (int list : NO_LIST) {
            CHECK.refuses("bitsPerDocument of no list", x, Check.BOUNDS,
                    () -> (long) x.bitsPerDocument(list));
        }
        CHECK.same("bitsPerDocument(2), empty", x.bitsPerDocument(2), 0.0);
        x.appendRange(2, 5, 1, 21);
        CHECK.same("bitsPerDocument(2)", x.bitsPerDocument(2), 26.0 / 21.0);
        x.appendRange(2, 100, 37, 6);
        CHECK.same("bitsPerDocument(2)", x.bitsPerDocument(2), 94.0 / 27.0);
    }

    private static void nextAtLeast() {
        MonotonePostings x = new MonotonePostings();
        for (int list : NO_LIST) {
            CHECK.refuses("nextAtLeast in no list", x, Check.BOUNDS, () -> x.nextAtLeast(list, -1));
        }
        for (int wrong : new int[] {-1, 512, Integer.MIN_VALUE, Integer.MAX_VALUE}) {
            CHECK.refuses("nextAtLeast(0, " + wrong + ")", x, Check.ARGUMENT, () -> x.nextAtLeast(0, wrong));
        }
        CHECK.is("nextAtLeast(0, 0), empty", x.nextAtLeast(0, 0), -1);
        CHECK.counters(x, "after a query in an empty list", 0, 0, 0);
        CHECK.is("undo() of it", x.undo(), 0);
        x.appendRange(0, 0, 1, 20);
        x.appendRange(0, 100, 1, 20);
        x.appendRange(0, 492, 1, 20);
        CHECK.is("nextAtLeast(0, 0)", x.nextAtLeast(0, 0), 0);
        CHECK.counters(x, "at the first document", 1, 0, 0);
        CHECK.is("nextAtLeast(0, 20)", x.nextAtLeast(0, 20), 100);
        CHECK.counters(x, "between partitions", 3, 0, 0);
        CHECK.is("nextAtLeast(0, 511)", x.nextAtLeast(0, 511), 511);
        CHECK.counters(x, "in the third, a run", 6, 0, 1);
        CHECK.is("nextAtLeast(0, 19)", x.nextAtLeast(0, 19), 19);
        CHECK.counters(x, "in the first, a run", 7, 0, 2);
        CHECK.is("nextAtLeast(0, 493)", x.nextAtLeast(0, 493), 493);
        CHECK.counters(x, "in the third again", 10, 1, 2);
        CHECK.is("cachedAt(0)", x.cachedAt(0), 0);
        CHECK.is("cachedAt(1)", x.cachedAt(1), 2);
        x.appendRange(1, 0, 1, 20);
        CHECK.is("nextAtLeast(1, 20)", x.nextAtLeast(1, 20), -1);
        CHECK.counters(x, "behind the last document", 11, 1, 2);
    }

    private static void nextAtLeastInBitmap() {
        // One bitmap from 203 on: the bits 0, 1, 15, 16 and 24 to 32, in five bytes.
        int[][] due = {{204, 204, 2}, {205, 218, 3}, {210, 218, 3}, {211, 218, 2}, {218, 218, 2},
            {219, 219, 2}, {220, 227, 3}, {227, 227, 2}, {228, 228, 2}, {235, 235, 2}};
        for (int[] d : due) {
            MonotonePostings x = new MonotonePostings();
            x.appendRange(3, 203, 1, 2);
            x.appendRange(3, 218, 1, 2);
            x.appendRange(3, 227, 1, 9);
            CHECK.is("partition(3, 0, 0)", x.partition(3, 0, 0), 1);
            CHECK.is("partitions(3)", x.partitions(3), 1);
            CHECK.is("nextAtLeast(3, " + d[0] + ")", x.nextAtLeast(3, d[0]), d[1]);
            CHECK.counters(x, "after " + d[0], d[2], 0, 1);
        }
    }

    private static void nextAtLeastInEliasFano() {
        // Differences 0, 37, 74, 111, 148 and 185 with the high parts 0, 2, 4, 6, 9 and 11 (w = 4).
        int[][] due = {{101, 137, 4}, {115, 137, 4}, {116, 137, 3}, {132, 137, 3}, {137, 137, 3},
            {138, 174, 4}, {147, 174, 4}, {148, 174, 3}, {285, 285, 3}, {260, 285, 3}, {258, 285, 4}};
        for (int[] d : due) {
            MonotonePostings x = new MonotonePostings();
            x.appendRange(0, 100, 37, 6);
            CHECK.is("nextAtLeast(0, " + d[0] + ")", x.nextAtLeast(0, d[0]), d[1]);
            CHECK.counters(x, "after " + d[0], d[2], 0, 1);
        }
    }

    private static void countIntersection() {
        MonotonePostings x = new MonotonePostings();
        for (int wrong : new int[] {0, 16, 17, 31, -1, Integer.MIN_VALUE, Integer.MAX_VALUE}) {
            CHECK.refuses("countIntersection(" + wrong + ")", x, Check.ARGUMENT,
                    () -> x.countIntersection(wrong));
        }
        CHECK.is("countIntersection(15), empty", x.countIntersection(15), 0);
        CHECK.is("undo() of it", x.undo(), 0);
        x.appendRange(0, 448, 1, 64);
        CHECK.is("countIntersection(1)", x.countIntersection(1), 64);
        // 64 candidates, the first without opening; none for 512.
        CHECK.counters(x, "after one list", 64, 62, 1);
        x.appendRange(1, 0, 73, 8);
        x.append(2, 511);
        CHECK.is("countIntersection(7)", x.countIntersection(7), 1);
        CHECK.is("countIntersection(3)", x.countIntersection(3), 1);
        CHECK.is("countIntersection(8)", x.countIntersection(8), 0);
        CHECK.is("countIntersection(15)", x.countIntersection(15), 0);
        CHECK.is("sizes are as before", x.size(0) + x.size(1) + x.size(2) + x.size(3), 73);
    }

    private static void intersectionOrder() {
        // List 1 is the shortest, so it leads; then list 0, which has no answer for 30.
        MonotonePostings x = new MonotonePostings();
        x.appendRange(0, 10, 1, 5);
        x.append(1, 30);
        x.appendRange(2, 25, 1, 10);
        CHECK.is("countIntersection(7)", x.countIntersection(7), 0);
        CHECK.counters(x, "one header in list 1, one in list 0", 2, 0, 0);
        // Of equal ones the lowest number leads: 0 finds 10, 1 answers 20, 0 has no more.
        MonotonePostings y = new MonotonePostings();
        y.append(0, 10);
        y.append(1, 20);
        CHECK.is("countIntersection(3)", y.countIntersection(3), 0);
        CHECK.counters(y, "list 0 twice, list 1 once", 3, 0, 0);
        // The lead asks for 20 next, not for 11, and opens its partition once.
        MonotonePostings z = new MonotonePostings();
        z.appendRange(0, 10, 1, 11);
        z.appendRange(1, 20, 1, 12);
        CHECK.is("countIntersection(3)", z.countIntersection(3), 1);
        CHECK.counters(z, "10, 20; 20, 20; 21", 5, 0, 1);
    }

    private static void intersect() {
        MonotonePostings x = new MonotonePostings();
        for (int wrong : new int[] {0, 16, -1, Integer.MIN_VALUE}) {
            CHECK.refuses("intersect(" + wrong + ", 4)", x, Check.ARGUMENT, () -> x.intersect(wrong, 4));
        }
        for (int list : NO_LIST) {
            CHECK.refuses("intersect into no list", x, Check.BOUNDS, () -> x.intersect(15, list));
        }
        x.appendRange(0, 0, 2, 20);
        x.appendRange(1, 0, 3, 20);
        x.appendRange(2, 400, 1, 10);
        x.nextAtLeast(2, 401);
        CHECK.is("intersect(3, 2)", x.intersect(3, 2), 7);
        CHECK.documents(x, 2, 0, 6, 12, 18, 24, 30, 36);
        CHECK.is("cached(), without the target's", x.cached(), 2);
        CHECK.is("intersect(3, 0), one of them", x.intersect(3, 0), 7);
        CHECK.documents(x, 0, 0, 6, 12, 18, 24, 30, 36);
        CHECK.documents(x, 1, 0, 3, 6, 9, 12, 15, 18, 21, 24, 27, 30, 33, 36, 39, 42, 45, 48, 51, 54, 57);
        CHECK.is("cached(), without the target's", x.cached(), 1);
        CHECK.is("cachedAt(0)", x.cachedAt(0), 100);
        CHECK.is("intersect(9, 1), with an empty one", x.intersect(9, 1), 0);
        CHECK.documents(x, 1);
        CHECK.is("undo()", x.undo(), 3);
        CHECK.is("size(1) again", x.size(1), 20);
    }

    private static void unite() {
        MonotonePostings x = new MonotonePostings();
        for (int list : NO_LIST) {
            CHECK.refuses("unite of no list a", x, Check.BOUNDS, () -> x.unite(list, 0, 0));
            CHECK.refuses("unite of no list b", x, Check.BOUNDS, () -> x.unite(0, list, 0));
            CHECK.refuses("unite into no list", x, Check.BOUNDS, () -> x.unite(0, 0, list));
        }
        CHECK.is("unite(0, 1, 2), empty", x.unite(0, 1, 2), 0);
        x.appendRange(0, 0, 2, 4);
        x.appendRange(1, 0, 3, 4);
        CHECK.is("unite(0, 1, 2)", x.unite(0, 1, 2), 6);
        CHECK.documents(x, 2, 0, 2, 3, 4, 6, 9);
        CHECK.is("unite(1, 0, 1)", x.unite(1, 0, 1), 6);
        CHECK.documents(x, 1, 0, 2, 3, 4, 6, 9);
        CHECK.is("unite(0, 0, 0)", x.unite(0, 0, 0), 4);
        CHECK.documents(x, 0, 0, 2, 4, 6);
        CHECK.is("unite(3, 0, 0)", x.unite(3, 0, 0), 4);
        x.appendRange(3, 100, 1, 60);
        CHECK.is("unite(3, 0, 2), 64", x.unite(3, 0, 2), 64);
        CHECK.is("document(2, 63)", x.document(2, 63), 159);
        CHECK.refuses("unite(3, 1, 2), 66", x, Check.STATE, () -> x.unite(3, 1, 2));
        CHECK.refuses("unite(3, 1, 4), 66", x, Check.BOUNDS, () -> x.unite(3, 1, 4));
        x.append(0, 8);
        CHECK.refuses("unite(3, 0, 1), 65", x, Check.STATE, () -> x.unite(3, 0, 1));
        x.clear(1);
        x.appendRange(1, 200, 1, 64);
        CHECK.refuses("unite(1, 2, 3), 128", x, Check.STATE, () -> x.unite(1, 2, 3));
        CHECK.counters(x, "after unite", 0, 0, 0);
        writtenWithoutChange(x, () -> x.unite(1, 1, 1));
    }

    /** List 1 is written with what it has, and its partitions are dropped all the same. */
    private static void writtenWithoutChange(MonotonePostings x, Check.Call call) {
        int size = x.size(1);
        x.nextAtLeast(1, x.document(1, size - 1));
        CHECK.is("cached() before the operation", x.cached(), 1);
        CHECK.is("the operation that changes nothing", call.answer(), size);
        CHECK.is("cached() after the operation", x.cached(), 0);
        x.undo();
        CHECK.is("cached() after undo", x.cached(), 1);
    }

    private static void subtract() {
        MonotonePostings x = new MonotonePostings();
        for (int list : NO_LIST) {
            CHECK.refuses("subtract from no list", x, Check.BOUNDS, () -> x.subtract(list, 0, 0));
            CHECK.refuses("subtract no list", x, Check.BOUNDS, () -> x.subtract(0, list, 0));
            CHECK.refuses("subtract into no list", x, Check.BOUNDS, () -> x.subtract(0, 0, list));
        }
        CHECK.is("subtract(0, 1, 2), empty", x.subtract(0, 1, 2), 0);
        x.appendRange(0, 0, 2, 8);
        x.appendRange(1, 0, 3, 4);
        CHECK.is("subtract(0, 1, 2)", x.subtract(0, 1, 2), 6);
        CHECK.documents(x, 2, 2, 4, 8, 10, 12, 14);
        CHECK.is("subtract(1, 0, 0)", x.subtract(1, 0, 0), 2);
        CHECK.documents(x, 0, 3, 9);
        CHECK.is("subtract(1, 0, 1)", x.subtract(1, 0, 1), 2);
        CHECK.documents(x, 1, 0, 6);
        CHECK.is("subtract(2, 3, 3)", x.subtract(2, 3, 3), 6);
        CHECK.documents(x, 3, 2, 4, 8, 10, 12, 14);
        CHECK.is("subtract(2, 2, 2)", x.subtract(2, 2, 2), 0);
        CHECK.documents(x, 2);
        CHECK.counters(x, "after subtract", 0, 0, 0);
        writtenWithoutChange(x, () -> x.subtract(1, 2, 1));
    }

    private static void reads() {
        MonotonePostings x = new MonotonePostings();
        x.appendRange(1, 3, 3, 30);
        x.nextAtLeast(1, 40);
        CHECK.is("reads()", x.reads(), 2);
        x.clear(1);
        CHECK.is("reads() since the beginning", x.reads(), 2);
        x.undo();
        x.undo();
        CHECK.is("reads() after undo", x.reads(), 0);
    }

    private static void hits() {
        MonotonePostings x = new MonotonePostings();
        x.appendRange(1, 3, 3, 30);
        x.nextAtLeast(1, 40);
        CHECK.is("hits()", x.hits(), 0);
        x.nextAtLeast(1, 3);
        CHECK.is("hits() without opening", x.hits(), 0);
        x.nextAtLeast(1, 90);
        CHECK.is("hits()", x.hits(), 1);
        x.append(1, 95);
        x.nextAtLeast(1, 90);
        CHECK.is("hits() after a change", x.hits(), 1);
        x.undo();
        x.undo();
        x.undo();
        CHECK.is("hits() after undo", x.hits(), 0);
    }

    private static void setCapacity() {
        MonotonePostings x = Scenes.fourRuns();
        for (int wrong : new int[] {-1, 9, Integer.MIN_VALUE, Integer.MAX_VALUE}) {
            CHECK.refuses("setCapacity(" + wrong + ")", x, Check.ARGUMENT, () -> x.setCapacity(wrong));
        }
        CHECK.is("setCapacity(8)", x.setCapacity(8), 4);
        for (int i = 0; i < 9; i++) {
            x.nextAtLeast(i % 4, 100 * (i / 4) + 1);
        }
        CHECK.cache(x, "of 8", 100, 200, 300, 1, 101, 201, 301, 2);
        CHECK.is("setCapacity(8) again", x.setCapacity(8), 8);
        CHECK.is("setCapacity(3)", x.setCapacity(3), 8);
        CHECK.cache(x, "of 3", 201, 301, 2);
        CHECK.is("setCapacity(5)", x.setCapacity(5), 3);
        CHECK.cache(x, "of 5", 201, 301, 2);
        CHECK.is("setCapacity(0)", x.setCapacity(0), 5);
        CHECK.cache(x, "of 0");
        int before = x.reads();
        x.nextAtLeast(0, 1);
        x.nextAtLeast(0, 1);
        CHECK.cache(x, "of 0, after queries");
        CHECK.is("reads() with the capacity 0", x.reads(), before + 2);
        CHECK.is("hits() with the capacity 0", x.hits(), 0);
        x.undo();
        x.undo();
        CHECK.is("undo() of setCapacity(0)", x.undo(), 1);
        CHECK.cache(x, "after undo", 201, 301, 2);
        CHECK.is("setCapacity(1) after undo", x.setCapacity(1), 5);
        CHECK.cache(x, "of 1", 2);
        x.nextAtLeast(3, 1);
        CHECK.cache(x, "of 1, after a query", 300);
    }

    private static void cached() {
        MonotonePostings x = Scenes.fourRuns();
        for (int k = 0; k < 4; k++) {
            x.nextAtLeast(2, 100 * k);
        }
        CHECK.is("cached(), nothing opened", x.cached(), 0);
        for (int i = 0; i < 6; i++) {
            x.nextAtLeast(i % 4, 100 * (i / 4) + 14);
            CHECK.is("cached()", x.cached(), i < 4 ? i + 1 : 4);
        }
        x.clear(3);
        CHECK.is("cached() after clear(3)", x.cached(), 3);
    }

    private static void cachedAt() {
        MonotonePostings x = Scenes.fourRuns();
        CHECK.refuses("cachedAt(0), empty", x, Check.BOUNDS, () -> x.cachedAt(0));
        x.nextAtLeast(3, 301);
        x.nextAtLeast(1, 1);
        x.nextAtLeast(0, 101);
        x.nextAtLeast(2, 201);
        CHECK.cache(x, "when full", 303, 100, 1, 202);
        x.nextAtLeast(1, 2);
        CHECK.cache(x, "after a hit", 303, 1, 202, 100);
        x.nextAtLeast(3, 101);
        CHECK.cache(x, "after one more", 1, 202, 100, 301);
        for (int index : new int[] {-1, 4, 8, Integer.MIN_VALUE, Integer.MAX_VALUE}) {
            CHECK.refuses("cachedAt(" + index + ")", x, Check.BOUNDS, () -> x.cachedAt(index));
        }
        x.append(2, 400);
        CHECK.cache(x, "after a change of list 2", 1, 100, 301);
        CHECK.refuses("cachedAt(3)", x, Check.BOUNDS, () -> x.cachedAt(3));
    }

    private static void undo() {
        MonotonePostings x = new MonotonePostings();
        CHECK.refuses("undo(), new", x, Check.STATE, x::undo);
        for (int i = 0; i < 6; i++) {
            x.append(0, 10 * i);
        }
        for (int i = 3; i >= 0; i--) {
            CHECK.is("undo()", x.undo(), i);
            CHECK.is("size(0) after undo", x.size(0), 2 + i);
        }
        CHECK.refuses("undo(), none left", x, Check.STATE, x::undo);
        CHECK.documents(x, 0, 0, 10);
        x.append(0, 500);
        CHECK.is("undo() after a new call", x.undo(), 0);
        CHECK.documents(x, 0, 0, 10);
        CHECK.is("nextAtLeast(0, 5)", x.nextAtLeast(0, 5), 10);
        long digest = x.digest();
        x.clear(0);
        x.setCapacity(0);
        x.undo();
        x.undo();
        CHECK.is("digest() as before", x.digest(), digest);
    }

    private static void undoOfEachMethod() {
        MonotonePostings x = Scenes.fourRuns();
        while (Check.outcome(x::undo).length() == 1) {
            CHECK.is("reads()", x.reads(), 0);
        }
        Check.Call[] undoable = {() -> x.append(3, 500), () -> x.appendRange(3, 500, 1, 2),
            () -> x.clear(0), () -> x.nextAtLeast(0, 1), () -> x.countIntersection(3),
            () -> x.intersect(3, 2), () -> x.unite(0, 1, 2), () -> x.subtract(0, 1, 2),
            () -> x.setCapacity(4)};
        for (int i = 0; i < undoable.length; i++) {
            long before = x.digest();
            undoable[i].answer();
            CHECK.is("undo() of undoable method " + i, x.undo(), 0);
            CHECK.is("digest() after it", x.digest(), before);
        }
        Check.Call[] others = {() -> x.size(0), () -> x.document(0, 0), () -> x.rank(0, 9),
            () -> x.partitions(0), () -> x.partition(0, 0, 0), () -> x.codeLength(0),
            () -> x.codeBit(0, 0), () -> x.fixedLength(0, 9), () -> (long) x.bitsPerDocument(0),
            x::reads, x::hits, x::cached, x::digest};
        for (int i = 0; i < others.length; i++) {
            long before = x.digest();
            others[i].answer();
            CHECK.is("digest() after looking " + i, x.digest(), before);
            CHECK.refuses("undo() of nothing", x, Check.STATE, x::undo);
        }
    }

    private static void digest() {
        MonotonePostings x = new MonotonePostings();
        x.append(1, 5);
        CHECK.hash(x, "with a run", 0, 0, 1, 5, 1, 0, 1, 5, 5, 26, 0,
                0, 0, 0, 0, 0, 0, 0, 0, 1, 0, 1, 0, 0, 0, 0, 0, 0, 0, 0, 0, 0, 0, 0, 0, 0, 0,
                0, 0, 0, 0, 4, 0, 0, 0, 1);
        x.append(1, 7);
        x.nextAtLeast(1, 6);
        x.nextAtLeast(1, 6);
        x.setCapacity(7);
        x.setCapacity(6);
        CHECK.hash(x, "with a bitmap and the cache", 0, 0, 2, 5, 7, 1, 1, 2, 5, 7, 29, 0,
                1, 0, 1, 0, 0, 0, 0, 0, 1, 0, 1, 0, 0, 0, 0, 0, 0, 0, 1, 0, 0, 0, 0, 0, 0, 0,
                1, 0, 1, 0, 0, 0, 0, 6, 1, 100, 3, 1, 4);
        // Two partitions: all their facts come first, then the bits of the whole code.
        MonotonePostings y = new MonotonePostings();
        y.appendRange(3, 0, 1, 30);
        y.appendRange(3, 500, 1, 2);
        CHECK.is("partitions(3)", y.partitions(3), 2);
        int[] values = new int[6 + 1 + 32 + 1 + 12 + 52 + 5];
        values[6] = 32;
        int at = 7;
        for (int i = 0; i < 32; i++) {
            values[at++] = i < 30 ? i : 470 + i;
        }
        String rest = "2 | 0 30 0 29 26 0 | 0 2 500 501 26 0";
        for (String value : rest.replace("| ", "").split(" ")) {
            values[at++] = Integer.parseInt(value);
        }
        String bits = "00 101110 000000000 101110000" + "00 100000 001011111 100000000";
        for (char bit : bits.replace(" ", "").toCharArray()) {
            values[at++] = bit - '0';
        }
        values[at] = 4;
        values[values.length - 1] = 2;
        CHECK.hash(y, "with two partitions", values);
    }
}
