/**
 * The boundary cases of "Intersection of a set of lists by queries" and of the promises 15 to 18;
 * above each test stands its sentence.
 */
public final class SetsBoundaryTest {
    private static final Check CHECK = new Check("SetsBoundaryTest");
    private static final int LOW = Integer.MIN_VALUE;
    private static final int HIGH = Integer.MAX_VALUE;

    public static void main(String[] args) {
        whichSetsThereAre();
        orderByNumberOfDocuments();
        lowestListNumberFirst();
        noCandidateAtFirst();
        completeWithoutAnswer();
        greaterAnswer();
        nextCandidate();
        noQueryFor512();
        countedReadsAndCache();
        intersectFull();
        intersectIntoOneOfThem();
        intersectToNothing();
        uniteLimit();
        uniteEmpty();
        uniteIntoOneOfThem();
        subtractEmptyAndAll();
        subtractIntoOneOfThem();
        nothingIsRead();
        CHECK.end();
    }

    /** An object whose lists have these documents, the first row in list 0 and so on. */
    private static MonotonePostings with(int[]... lists) {
        MonotonePostings x = new MonotonePostings();
        for (int list = 0; list < lists.length; list++) {
            for (int document : lists[list]) {
                x.append(list, document);
            }
        }
        return x;
    }

    private static int[] of(int... documents) {
        return documents;
    }

    private static void count(MonotonePostings x, int lists, int due, int reads) {
        CHECK.is("countIntersection(" + lists + ")", x.countIntersection(lists), due);
        CHECK.is("reads() of it", x.reads(), reads);
    }

    /** "if lists is empty or contains a list that does not exist": the sets 1 to 15 are good. */
    private static void whichSetsThereAre() {
        for (int lists = 1; lists <= 15; lists++) {
            MonotonePostings x = with(of(0, 1), of(0, 2), of(0, 3), of(0, 4));
            int due = (lists & lists - 1) == 0 ? 2 : 1;
            CHECK.is("countIntersection(" + lists + ")", x.countIntersection(lists), due);
            CHECK.is("intersect(" + lists + ", 0)", x.intersect(lists, 0), due);
        }
        MonotonePostings x = Scenes.oneEach();
        for (int wrong : new int[] {0, 16, 17, 31, 1 << 30, LOW, LOW + 1, -1, -16, HIGH}) {
            CHECK.refuses("countIntersection(" + wrong + ")", x, Check.ARGUMENT,
                    () -> x.countIntersection(wrong));
            CHECK.refuses("intersect(" + wrong + ", 0)", x, Check.ARGUMENT, () -> x.intersect(wrong, 0));
        }
        CHECK.is("countIntersection(8), the last list", x.countIntersection(8), 1);
    }

    /** "The lists are ordered by the number of their documents". */
    private static void orderByNumberOfDocuments() {
        // List 2 leads with 10; list 1 answers 11 before list 0 could have no answer.
        count(with(of(5, 6, 7), of(11, 12), of(10)), 7, 0, 3);
        // The other way round list 1 has no answer, and list 0 is not asked.
        count(with(of(11, 12, 13), of(5, 6), of(10)), 7, 0, 2);
        // The fewest documents lead, though the first one is in a list with more of them.
        count(with(of(1, 2), of(3)), 3, 0, 2);
        count(with(of(3), of(1, 2)), 3, 0, 2);
    }

    /** "the lowest list number first for equal ones". */
    private static void lowestListNumberFirst() {
        // The lower list asks for 20 once more; if the other led, there were two queries only.
        count(with(of(10), of(20)), 3, 0, 3);
        count(with(of(), of(), of(10), of(20)), 12, 0, 3);
        count(with(of(20), of(10)), 3, 0, 2);
        // Of the others, too: list 1 has no answer, so list 2 is not asked.
        count(with(of(), of(5, 6), of(11, 12), of(10)), 14, 0, 2);
        count(with(of(), of(11, 12), of(5, 6), of(10)), 14, 0, 3);
    }

    /** "When there is no candidate, the intersection is complete.": the shortest list is empty. */
    private static void noCandidateAtFirst() {
        count(new MonotonePostings(), 15, 0, 0);
        count(new MonotonePostings(), 1, 0, 0);
        MonotonePostings x = Scenes.full();
        count(x, 8, 0, 0);
        count(x, 15, 0, 0);
    }

    /** "until one has no answer (then the intersection is complete)". */
    private static void completeWithoutAnswer() {
        count(with(of(10), of(5)), 3, 0, 2);
        count(with(of(10), of(5), of(7)), 7, 0, 2);
        // After one that belongs to it: 5 in both, 6 only in the first.
        MonotonePostings x = with(of(5, 6, 7), of(1, 3, 5));
        CHECK.is("countIntersection(3)", x.countIntersection(3), 1);
        // 5; a bitmap's header and byte for 5; 6 in the run; list 1 has no answer.
        CHECK.is("reads() of it", x.reads(), 1 + 2 + 1 + 1);
    }

    /** "in the latter case the new candidate is the answer to the query for y in the first list". */
    private static void greaterAnswer() {
        // List 2 is not asked when list 1 answers 20.
        count(with(of(10), of(20), of(10)), 7, 0, 3);
        // List 0 is asked for 20 at once: 10; 20; 20 (in the run); 20; 21.
        MonotonePostings x = new MonotonePostings();
        x.appendRange(0, 10, 1, 11);
        x.appendRange(1, 20, 1, 12);
        count(x, 3, 1, 5);
        // The answer is the new candidate also where it is greater than y: 10; 20; 30; 30; none.
        count(with(of(10, 30), of(20, 30)), 3, 1, readsOfGreaterAnswer());
    }

    /** Both lists are Elias-Fano; 2 in 21 and in 11 places with w = 3 and w = 2. */
    private static int readsOfGreaterAnswer() {
        int tenAtFirst = 1;
        int twentyForTen = 1;
        // x - f = 10 has the high part 1, as no document has: 30 alone is read.
        int thirtyForTwenty = 1 + 1 + 1;
        // x - f = 10 has the high part 2, the answer's own.
        int thirtyForThirty = 1 + 1 + 1;
        int noneFor31 = 1;
        return tenAtFirst + twentyForTen + thirtyForTwenty + thirtyForThirty + noneFor31;
    }

    /** "the new candidate is the answer to the query for the candidate plus 1 in the first list". */
    private static void nextCandidate() {
        // 5, and then none for 6.
        count(with(of(5)), 1, 1, 2);
        count(with(of(510)), 1, 1, 2);
        // 0, 1 (opened, not in the cache), 2 (a hit), none for 3.
        MonotonePostings x = with(of(0, 1, 2));
        count(x, 1, 3, 4);
        CHECK.is("hits()", x.hits(), 1);
    }

    /** "(for 512 there is no query, and the intersection is complete)". */
    private static void noQueryFor512() {
        count(with(of(511)), 1, 1, 1);
        count(with(of(511), of(511)), 3, 1, 2);
        count(with(of(511), of(511), of(511), of(511)), 15, 1, 4);
        MonotonePostings x = Scenes.full();
        // 64 documents of a run up to 511: one header each, 62 hits.
        count(x, 2, 64, 64);
        CHECK.is("hits()", x.hits(), 62);
    }

    /** "All these queries count their reads and use the cache." */
    private static void countedReadsAndCache() {
        MonotonePostings x = Scenes.fourRuns();
        x.nextAtLeast(3, 1);
        CHECK.is("countIntersection(1)", x.countIntersection(1), 60);
        // The 15 documents of each run are found by 1, 2, 3 and 4 headers, and none for 315 by 4;
        // of each run the first document is found without opening it, the second without a hit.
        int headers = 15 * (1 + 2 + 3 + 4) + 4;
        CHECK.counters(x, "of four runs", 1 + headers, 4 * 13, 4);
        CHECK.cache(x, "of four runs", 0, 1, 2, 3);
        x.setCapacity(0);
        CHECK.is("countIntersection(1), capacity 0", x.countIntersection(1), 60);
        CHECK.counters(x, "with the capacity 0", 1 + 2 * headers, 4 * 13, 0);
    }

    /** intersect: "Returns the number of documents of the result.": 64 of them. */
    private static void intersectFull() {
        MonotonePostings x = new MonotonePostings();
        for (int list = 0; list < 3; list++) {
            x.appendRange(list, 7, 8, 64);
        }
        CHECK.is("intersect(7, 3)", x.intersect(7, 3), 64);
        CHECK.is("size(3)", x.size(3), 64);
        CHECK.is("document(3, 0)", x.document(3, 0), 7);
        CHECK.is("document(3, 63)", x.document(3, 63), 511);
        CHECK.is("codeLength(3)", x.codeLength(3), x.codeLength(0));
    }

    /** intersect: "into a list, which may be one of them". */
    private static void intersectIntoOneOfThem() {
        for (int target = 0; target < 4; target++) {
            MonotonePostings x = with(of(1, 2, 3, 9), of(2, 3, 4, 9), of(0, 3, 9), of(3, 7, 9));
            CHECK.is("intersect(15, " + target + ")", x.intersect(15, target), 2);
            CHECK.documents(x, target, 3, 9);
            CHECK.is("all sizes", x.size(0) + x.size(1) + x.size(2) + x.size(3), 14 - sizeOf(target) + 2);
        }
        MonotonePostings x = with(of(1, 2, 3));
        CHECK.is("intersect(1, 0), itself", x.intersect(1, 0), 3);
        CHECK.documents(x, 0, 1, 2, 3);
        CHECK.is("intersect(1, 3), a copy", x.intersect(1, 3), 3);
        CHECK.documents(x, 3, 1, 2, 3);
        CHECK.documents(x, 0, 1, 2, 3);
    }

    private static int sizeOf(int list) {
        return list < 2 ? 4 : 3;
    }

    /** The same where the result is empty: the target is emptied. */
    private static void intersectToNothing() {
        MonotonePostings x = with(of(1, 3), of(2, 4), of(5, 6, 7));
        CHECK.is("intersect(3, 2)", x.intersect(3, 2), 0);
        CHECK.documents(x, 2);
        CHECK.is("partitions(2)", x.partitions(2), 0);
        CHECK.is("intersect(9, 0), with an empty list", x.intersect(9, 0), 0);
        CHECK.documents(x, 0);
        CHECK.documents(x, 1, 2, 4);
    }

    /** unite: "if the result would have more than 64 documents". */
    private static void uniteLimit() {
        MonotonePostings x = Scenes.full();
        x.append(3, 62);
        // Documents in both lists count once: 64 and 63 with 32 in common are 95.
        CHECK.refuses("unite(0, 2, 3), 95", x, Check.STATE, () -> x.unite(0, 2, 3));
        CHECK.refuses("unite(0, 1, 3), 128", x, Check.STATE, () -> x.unite(0, 1, 3));
        CHECK.refuses("unite(0, 1, 0), 128", x, Check.STATE, () -> x.unite(0, 1, 0));
        CHECK.refuses("unite(0, 1, 1), 128", x, Check.STATE, () -> x.unite(0, 1, 1));
        CHECK.is("unite(2, 3, 3), 63", x.unite(2, 3, 3), 63);
        x.clear(3);
        x.append(3, 63);
        CHECK.is("unite(2, 3, 3), 64", x.unite(2, 3, 3), 64);
        CHECK.is("document(3, 63)", x.document(3, 63), 63);
        x.clear(3);
        x.appendRange(3, 62, 1, 3);
        CHECK.refuses("unite(2, 3, 0), 65", x, Check.STATE, () -> x.unite(2, 3, 0));
        CHECK.refuses("unite(3, 2, 0), 65", x, Check.STATE, () -> x.unite(3, 2, 0));
        CHECK.is("unite(1, 1, 3), the same 64 twice", x.unite(1, 1, 3), 64);
        CHECK.is("unite(1, 3, 0), equal lists of 64", x.unite(1, 3, 0), 64);
        CHECK.is("document(0, 0)", x.document(0, 0), 448);
        CHECK.is("document(0, 63)", x.document(0, 63), 511);
    }

    /** unite with an empty list on either side, and on both. */
    private static void uniteEmpty() {
        MonotonePostings x = Scenes.full();
        CHECK.is("unite(3, 1, 2)", x.unite(3, 1, 2), 64);
        CHECK.is("document(2, 63)", x.document(2, 63), 511);
        CHECK.is("unite(0, 3, 2)", x.unite(0, 3, 2), 64);
        CHECK.is("document(2, 63)", x.document(2, 63), 126);
        CHECK.is("unite(3, 3, 2)", x.unite(3, 3, 2), 0);
        CHECK.documents(x, 2);
        CHECK.documents(x, 3);
    }

    /** unite: "into a list, which may be one of them". */
    private static void uniteIntoOneOfThem() {
        MonotonePostings x = with(of(0, 5, 511), of(5, 6));
        CHECK.is("unite(0, 1, 0)", x.unite(0, 1, 0), 4);
        CHECK.documents(x, 0, 0, 5, 6, 511);
        CHECK.documents(x, 1, 5, 6);
        x.undo();
        CHECK.is("unite(0, 1, 1)", x.unite(0, 1, 1), 4);
        CHECK.documents(x, 1, 0, 5, 6, 511);
        CHECK.documents(x, 0, 0, 5, 511);
        CHECK.is("unite(0, 0, 0)", x.unite(0, 0, 0), 3);
        CHECK.documents(x, 0, 0, 5, 511);
    }

    /** subtract: "the documents of a list that are not in another one": none, all, and from a full list. */
    private static void subtractEmptyAndAll() {
        MonotonePostings x = Scenes.full();
        CHECK.is("subtract(1, 3, 2), nothing left out", x.subtract(1, 3, 2), 64);
        CHECK.is("document(2, 63)", x.document(2, 63), 511);
        CHECK.is("subtract(3, 1, 2), of nothing", x.subtract(3, 1, 2), 0);
        CHECK.documents(x, 2);
        CHECK.is("subtract(3, 3, 2), nothing of nothing", x.subtract(3, 3, 2), 0);
        CHECK.is("subtract(0, 0, 2), all of itself", x.subtract(0, 0, 2), 0);
        CHECK.is("subtract(0, 1, 2), none of 64", x.subtract(0, 1, 2), 64);
        CHECK.is("document(2, 63)", x.document(2, 63), 126);
        MonotonePostings y = with(of(0, 5, 511), of(0), of(511), of(0, 511));
        CHECK.is("subtract(0, 1, 1), the first", y.subtract(0, 1, 1), 2);
        CHECK.documents(y, 1, 5, 511);
        CHECK.is("subtract(0, 2, 2), the last", y.subtract(0, 2, 2), 2);
        CHECK.documents(y, 2, 0, 5);
        CHECK.is("subtract(3, 0, 3), a part of it", y.subtract(3, 0, 3), 0);
        CHECK.documents(y, 3);
    }

    /** subtract: "into a list, which may be one of them". */
    private static void subtractIntoOneOfThem() {
        MonotonePostings x = with(of(1, 2, 3), of(2, 9));
        CHECK.is("subtract(0, 1, 0)", x.subtract(0, 1, 0), 2);
        CHECK.documents(x, 0, 1, 3);
        CHECK.documents(x, 1, 2, 9);
        x.undo();
        CHECK.is("subtract(0, 1, 1)", x.subtract(0, 1, 1), 2);
        CHECK.documents(x, 1, 1, 3);
        CHECK.documents(x, 0, 1, 2, 3);
        CHECK.is("subtract(0, 0, 0)", x.subtract(0, 0, 0), 0);
        CHECK.documents(x, 0);
    }

    /** unite and subtract: "Nothing is read.", and nothing is opened. */
    private static void nothingIsRead() {
        MonotonePostings x = Scenes.threeKinds();
        x.nextAtLeast(0, 1);
        x.nextAtLeast(0, 1);
        CHECK.counters(x, "before", 2, 1, 1);
        x.unite(0, 1, 3);
        CHECK.counters(x, "after unite", 2, 1, 1);
        x.subtract(1, 2, 3);
        CHECK.counters(x, "after subtract", 2, 1, 1);
    }
}
