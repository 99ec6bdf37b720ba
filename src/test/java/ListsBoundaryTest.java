/** The boundary cases of "Lists" and of the promises 1 to 7; above each test stands its sentence. */
public final class ListsBoundaryTest {
    private static final Check CHECK = new Check("ListsBoundaryTest");
    private static final int LOW = Integer.MIN_VALUE;
    private static final int HIGH = Integer.MAX_VALUE;

    private interface ListCall {
        long answer(MonotonePostings x, int list);
    }

    public static void main(String[] args) {
        newObject();
        whichListsThereAre();
        appendDocumentRange();
        appendAscending();
        appendToFullList();
        rangeFirst();
        rangeStep();
        rangeCount();
        rangeLastDocument();
        rangeAscending();
        rangeToFullList();
        clearEmptyAndFull();
        sizeEmptyAndFull();
        documentIndex();
        rankBorder();
        CHECK.end();
    }

    private static void takes(String call, long got, long due) {
        CHECK.is(call, got, due);
    }

    /** "There are 4 lists, numbered from 0, all empty at first."; "initially 4" of the capacity. */
    private static void newObject() {
        MonotonePostings x = new MonotonePostings();
        for (int list = 0; list < 4; list++) {
            CHECK.documents(x, list);
            CHECK.is("partitions of a new list", x.partitions(list), 0);
        }
        CHECK.counters(x, "of a new object", 0, 0, 0);
        CHECK.refuses("undo() of a new object", x, Check.STATE, x::undo);
        CHECK.is("the capacity of a new object", x.setCapacity(0), 4);
    }

    /** "Throws IndexOutOfBoundsException if there is no such list": 0 and 3 are, -1 and 4 are not. */
    private static void whichListsThereAre() {
        listIn("append", 2, 2, (x, list) -> x.append(list, 14));
        listIn("appendRange", 3, 3, (x, list) -> x.appendRange(list, 14, 1, 2));
        listIn("clear", 1, 1, MonotonePostings::clear);
        listIn("size", 1, 1, MonotonePostings::size);
        listIn("document", 10, 13, (x, list) -> x.document(list, 0));
        listIn("rank", 1, 0, (x, list) -> x.rank(list, 13));
        listIn("partitions", 1, 1, MonotonePostings::partitions);
        listIn("partition", 10, 13, (x, list) -> x.partition(list, 0, 3));
        listIn("codeLength", 26, 26, MonotonePostings::codeLength);
        listIn("codeBit", 0, 1, (x, list) -> x.codeBit(list, 8));
        listIn("fixedLength", 26, 26, (x, list) -> x.fixedLength(list, 1));
        listIn("bitsPerDocument", 26, 26, (x, list) -> (long) x.bitsPerDocument(list));
        listIn("nextAtLeast", 10, 13, (x, list) -> x.nextAtLeast(list, 0));
        listIn("intersect into", 1, 1, (x, list) -> x.intersect(2, list));
        listIn("unite a", 2, 2, (x, list) -> x.unite(list, 1, 2));
        listIn("unite b", 2, 2, (x, list) -> x.unite(1, list, 2));
        listIn("unite into", 2, 2, (x, list) -> x.unite(1, 2, list));
        listIn("subtract a", 1, 1, (x, list) -> x.subtract(list, 1, 2));
        listIn("subtract b", 1, 1, (x, list) -> x.subtract(1, list, 2));
        listIn("subtract into", 1, 1, (x, list) -> x.subtract(1, 2, list));
    }

    private static void listIn(String name, long atFirst, long atLast, ListCall call) {
        takes(name + ", list 0", call.answer(Scenes.oneEach(), 0), atFirst);
        takes(name + ", list 3", call.answer(Scenes.oneEach(), 3), atLast);
        for (int list : new int[] {-1, 4, LOW, HIGH}) {
            MonotonePostings x = Scenes.oneEach();
            CHECK.refuses(name + ", list " + list, x, Check.BOUNDS, () -> call.answer(x, list));
        }
    }

    /** "a document is a number from 0 to 511"; append: "if document is out of range". */
    private static void appendDocumentRange() {
        MonotonePostings x = new MonotonePostings();
        for (int wrong : new int[] {-1, 512, LOW, HIGH}) {
            CHECK.refuses("append(0, " + wrong + ")", x, Check.ARGUMENT, () -> x.append(0, wrong));
        }
        takes("append(0, 0)", x.append(0, 0), 1);
        takes("append(0, 511)", x.append(0, 511), 2);
        CHECK.documents(x, 0, 0, 511);
        CHECK.refuses("append(0, 512) behind 511", x, Check.ARGUMENT, () -> x.append(0, 512));
    }

    /** append: "or not greater than the last document of the list". */
    private static void appendAscending() {
        MonotonePostings x = new MonotonePostings();
        x.append(1, 7);
        CHECK.refuses("append the last one again", x, Check.ARGUMENT, () -> x.append(1, 7));
        CHECK.refuses("append the one before it", x, Check.ARGUMENT, () -> x.append(1, 6));
        CHECK.refuses("append 0", x, Check.ARGUMENT, () -> x.append(1, 0));
        takes("append the next one", x.append(1, 8), 2);
        takes("append it to another list", x.append(2, 7), 1);
        x.append(1, 511);
        CHECK.refuses("append behind 511", x, Check.ARGUMENT, () -> x.append(1, 511));
        x.undo();
        takes("append when 511 is taken back", x.append(1, 9), 3);
        x.clear(1);
        takes("append 0 to a list that was emptied", x.append(1, 0), 1);
    }

    /** "at most 64 documents"; append: "if the list has 64 documents". */
    private static void appendToFullList() {
        MonotonePostings x = Scenes.full();
        CHECK.refuses("append to 64", x, Check.STATE, () -> x.append(0, 127));
        CHECK.refuses("append 511 to 64", x, Check.STATE, () -> x.append(0, 511));
        takes("append to 63", x.append(2, 63), 64);
        CHECK.is("the 64th document", x.document(2, 63), 63);
        CHECK.refuses("append to 63 and one more", x, Check.STATE, () -> x.append(2, 64));
        x.undo();
        takes("append to 63 again", x.append(2, 511), 64);
    }

    private static void refusesRange(int first, int step, int count) {
        MonotonePostings x = Scenes.full();
        String call = "appendRange(3, " + first + ", " + step + ", " + count + ")";
        CHECK.refuses(call, x, Check.ARGUMENT, () -> x.appendRange(3, first, step, count));
    }

    private static void takesRange(int first, int step, int count) {
        MonotonePostings x = Scenes.full();
        String call = "appendRange(3, " + first + ", " + step + ", " + count + ")";
        takes(call, x.appendRange(3, first, step, count), count);
        int[] due = new int[count];
        for (int i = 0; i < count; i++) {
            due[i] = first + i * step;
        }
        CHECK.documents(x, 3, due);
    }

    /** appendRange: first is 0 to 511. */
    private static void rangeFirst() {
        takesRange(0, 1, 1);
        takesRange(511, 1, 1);
        for (int wrong : new int[] {-1, 512, LOW, HIGH}) {
            refusesRange(wrong, 1, 1);
            refusesRange(wrong, 1, 2);
        }
        // The last one would be good again, by number or by overflow.
        refusesRange(-1, 1, 2);
        refusesRange(LOW, 511, 64);
    }

    /** appendRange: step is 1 to 511. */
    private static void rangeStep() {
        takesRange(0, 1, 2);
        takesRange(0, 511, 2);
        for (int wrong : new int[] {0, -1, 512, LOW, HIGH}) {
            refusesRange(0, wrong, 1);
            refusesRange(0, wrong, 2);
        }
        // Backwards, and steps that come back to good documents by overflow.
        refusesRange(100, -1, 3);
        refusesRange(0, 1 << 30, 5);
        refusesRange(5, LOW, 3);
    }

    /** appendRange: count is 1 to 64. */
    private static void rangeCount() {
        takesRange(3, 1, 1);
        takesRange(3, 1, 64);
        takesRange(3, 511, 1);
        for (int wrong : new int[] {0, -1, 65, LOW, HIGH}) {
            refusesRange(3, 1, wrong);
        }
        // Here count - 1 times step is 0 by overflow.
        refusesRange(3, 16, (1 << 28) + 1);
    }

    /** appendRange: "the last one would be greater than 511". */
    private static void rangeLastDocument() {
        takesRange(448, 1, 64);
        refusesRange(449, 1, 64);
        takesRange(7, 8, 64);
        refusesRange(8, 8, 64);
        takesRange(1, 510, 2);
        refusesRange(2, 510, 2);
        refusesRange(1, 511, 2);
        takesRange(511, 511, 1);
        refusesRange(511, 1, 2);
        refusesRange(511, 511, 64);
    }

    /** appendRange: "or first is not greater than the last document of the list". */
    private static void rangeAscending() {
        MonotonePostings x = new MonotonePostings();
        x.append(0, 7);
        CHECK.refuses("appendRange from 7", x, Check.ARGUMENT, () -> x.appendRange(0, 7, 1, 2));
        CHECK.refuses("appendRange from 6", x, Check.ARGUMENT, () -> x.appendRange(0, 6, 5, 2));
        CHECK.refuses("appendRange from 0", x, Check.ARGUMENT, () -> x.appendRange(0, 0, 1, 1));
        takes("appendRange from 8", x.appendRange(0, 8, 1, 2), 3);
        CHECK.documents(x, 0, 7, 8, 9);
        CHECK.refuses("appendRange from 9", x, Check.ARGUMENT, () -> x.appendRange(0, 9, 1, 1));
        takes("appendRange to another list", x.appendRange(1, 0, 1, 2), 2);
    }

    /** appendRange: "if the list would have more than 64 documents". */
    private static void rangeToFullList() {
        MonotonePostings x = Scenes.full();
        CHECK.refuses("one to 64", x, Check.STATE, () -> x.appendRange(0, 127, 1, 1));
        CHECK.refuses("64 to 64", x, Check.STATE, () -> x.appendRange(0, 127, 1, 64));
        CHECK.refuses("two to 63", x, Check.STATE, () -> x.appendRange(2, 63, 1, 2));
        takes("one to 63", x.appendRange(2, 63, 1, 1), 64);
        takes("64 to none", x.appendRange(3, 0, 8, 64), 64);
        x.clear(3);
        x.append(3, 0);
        CHECK.refuses("64 to one", x, Check.STATE, () -> x.appendRange(3, 1, 1, 64));
        takes("63 to one", x.appendRange(3, 1, 1, 63), 64);
    }

    /** clear: "Returns the number of documents that it had.", and the list is like a new one. */
    private static void clearEmptyAndFull() {
        MonotonePostings x = Scenes.full();
        takes("clear of an empty list", x.clear(3), 0);
        takes("clear of a full list", x.clear(1), 64);
        takes("clear of it once more", x.clear(1), 0);
        CHECK.documents(x, 1);
        CHECK.is("partitions(1)", x.partitions(1), 0);
        CHECK.is("codeLength(1)", x.codeLength(1), 0);
        takes("64 documents again", x.appendRange(1, 0, 1, 64), 64);
        CHECK.is("size of another list", x.size(0), 64);
    }

    /** size: "Returns the number of documents." */
    private static void sizeEmptyAndFull() {
        MonotonePostings x = Scenes.full();
        CHECK.is("size of a full list", x.size(0), 64);
        CHECK.is("size of a list with room for one", x.size(2), 63);
        CHECK.is("size of an empty list", x.size(3), 0);
    }

    /** document: "if there is no such list or index"; "Nothing is read." */
    private static void documentIndex() {
        MonotonePostings x = Scenes.full();
        for (int index : new int[] {-1, 0, 1, 63, 64, LOW, HIGH}) {
            CHECK.refuses("document(3, " + index + "), empty", x, Check.BOUNDS, () -> x.document(3, index));
        }
        CHECK.is("document(2, 0)", x.document(2, 0), 0);
        CHECK.is("document(2, 62)", x.document(2, 62), 62);
        CHECK.refuses("document(2, 63) of 63", x, Check.BOUNDS, () -> x.document(2, 63));
        CHECK.is("document(1, 0)", x.document(1, 0), 448);
        CHECK.is("document(1, 63)", x.document(1, 63), 511);
        for (int index : new int[] {-1, 64, LOW, HIGH}) {
            CHECK.refuses("document(1, " + index + ")", x, Check.BOUNDS, () -> x.document(1, index));
        }
        // A document that was there before does not stay behind the end.
        x.clear(1);
        x.append(1, 5);
        CHECK.refuses("document(1, 1) of 1", x, Check.BOUNDS, () -> x.document(1, 1));
        CHECK.counters(x, "after document", 0, 0, 0);
    }

    /** rank: x is 0 to 512, "if x is out of range"; "Nothing is read." */
    private static void rankBorder() {
        MonotonePostings x = Scenes.full();
        CHECK.is("rank(3, 0), empty", x.rank(3, 0), 0);
        CHECK.is("rank(3, 512), empty", x.rank(3, 512), 0);
        CHECK.is("rank(2, 0), with document 0", x.rank(2, 0), 0);
        CHECK.is("rank(2, 1)", x.rank(2, 1), 1);
        CHECK.is("rank(1, 448), the first one", x.rank(1, 448), 0);
        CHECK.is("rank(1, 449)", x.rank(1, 449), 1);
        CHECK.is("rank(1, 511), the last one", x.rank(1, 511), 63);
        CHECK.is("rank(1, 512)", x.rank(1, 512), 64);
        CHECK.is("rank(0, 127), behind the last one", x.rank(0, 127), 64);
        for (int wrong : new int[] {-1, 513, LOW, HIGH}) {
            CHECK.refuses("rank(1, " + wrong + ")", x, Check.ARGUMENT, () -> x.rank(1, wrong));
            CHECK.refuses("rank(3, " + wrong + ")", x, Check.ARGUMENT, () -> x.rank(3, wrong));
        }
        CHECK.counters(x, "after rank", 0, 0, 0);
    }
}
