/** The boundary cases of "Partitions" and of the promises 8 to 13; above each test its sentence. */
public final class CodeBoundaryTest {
    private static final Check CHECK = new Check("CodeBoundaryTest");
    private static final int LOW = Integer.MIN_VALUE;
    private static final int HIGH = Integer.MAX_VALUE;

    public static void main(String[] args) {
        oneDocument();
        runOnlyWithoutGap();
        longestRun();
        bitmapWidths();
        equalKinds();
        greatestLowBits();
        widestEliasFano();
        fullEliasFano();
        leastSumFirst();
        fewestPartitions();
        shortestFirstPartition();
        oneAfterAnother();
        emptyList();
        partitionIndex();
        partitionWhat();
        codeBitIndex();
        fixedCount();
        fixedLastPartition();
        meanOfEmptyAndFull();
        CHECK.end();
    }

    private static MonotonePostings with(int... documents) {
        MonotonePostings x = new MonotonePostings();
        for (int document : documents) {
            x.append(0, document);
        }
        return x;
    }

    /** "sequences of one or more consecutive documents": one alone is a run, at 0 and at 511. */
    private static void oneDocument() {
        MonotonePostings x = with(0);
        CHECK.is("partitions of [0]", x.partitions(0), 1);
        CHECK.facts(x, 0, 0, 0, 1, 0, 0, 26, 0);
        CHECK.bits(x, 0, "00 000000 000000000 000000000");
        x = with(511);
        CHECK.is("partitions of [511]", x.partitions(0), 1);
        CHECK.facts(x, 0, 0, 0, 1, 511, 511, 26, 0);
        CHECK.bits(x, 0, "00 000000 111111111 000000000");
    }

    /** "kind 0 (run), possible only if n = u: no bits". */
    private static void runOnlyWithoutGap() {
        MonotonePostings x = with(4, 5);
        CHECK.facts(x, 0, 0, 0, 2, 4, 5, 26, 0);
        x = with(4, 6);
        CHECK.is("partitions of [4, 6]", x.partitions(0), 1);
        CHECK.facts(x, 0, 0, 1, 2, 4, 6, 29, 0);
        CHECK.bits(x, 0, "10 100000 001000000 010000000 101");
        // 63 in 64 places.
        x = new MonotonePostings();
        x.appendRange(0, 0, 1, 40);
        x.appendRange(0, 41, 1, 23);
        CHECK.is("fixedLength(0, 63), one gap", x.fixedLength(0, 63), 26 + 64);
    }

    /** "n - 1 in 6 bits, f in 9 bits, u - 1 in 9 bits": a run of 64 documents up to 511. */
    private static void longestRun() {
        MonotonePostings x = Scenes.full();
        CHECK.is("partitions(1)", x.partitions(1), 1);
        CHECK.facts(x, 1, 0, 0, 64, 448, 511, 26, 0);
        CHECK.bits(x, 1, "00 111111 000000111 111111000");
    }

    /** "kind 1 (bitmap): u bits, bit v is 1 if the difference v occurs": 64 in 253 places. */
    private static void bitmapWidths() {
        MonotonePostings x = new MonotonePostings();
        x.appendRange(0, 259, 4, 64);
        CHECK.is("partitions(0)", x.partitions(0), 1);
        CHECK.facts(x, 0, 0, 1, 64, 259, 511, 279, 0);
        CHECK.bits(x, 0, "10 111111 110000001 001111110" + "1000".repeat(63) + "1");
    }

    /** "the possible kind with the fewest bits, the lowest kind of equal ones". */
    private static void equalKinds() {
        // In 8 and in 9 places both kinds have 8 and 9 bits; in 10 Elias-Fano has 9.
        CHECK.facts(with(20, 27), 0, 0, 1, 2, 20, 27, 34, 0);
        CHECK.facts(with(20, 28), 0, 0, 1, 2, 20, 28, 35, 0);
        CHECK.facts(with(20, 29), 0, 0, 2, 2, 20, 29, 35, 2);
        // Three documents: 12 and 13 places are equal, 14 are not.
        CHECK.facts(with(0, 5, 11), 0, 0, 1, 3, 0, 11, 38, 0);
        CHECK.facts(with(0, 5, 12), 0, 0, 1, 3, 0, 12, 39, 0);
        CHECK.facts(with(0, 5, 13), 0, 0, 2, 3, 0, 13, 39, 2);
    }

    /** "let w be the greatest number with n * 2^w at most u": at 16 = 2 * 2^3 and just below it. */
    private static void greatestLowBits() {
        MonotonePostings x = with(100, 114);
        CHECK.facts(x, 0, 0, 2, 2, 100, 114, 36, 2);
        CHECK.bits(x, 0, "01 100000 001001100 011100000" + "100010" + "00 01");
        x = with(100, 115);
        CHECK.facts(x, 0, 0, 2, 2, 100, 115, 36, 3);
        CHECK.bits(x, 0, "01 100000 001001100 111100000" + "1010" + "000 111");
        // 23 and 24 places for three documents.
        CHECK.facts(with(0, 9, 22), 0, 0, 2, 3, 0, 22, 41, 2);
        CHECK.facts(with(0, 9, 23), 0, 0, 2, 3, 0, 23, 41, 3);
        // 511 and 512 places for two.
        CHECK.facts(with(0, 510), 0, 0, 2, 2, 0, 510, 46, 7);
        CHECK.facts(with(1, 511), 0, 0, 2, 2, 1, 511, 46, 7);
        CHECK.facts(with(0, 511), 0, 0, 2, 2, 0, 511, 46, 8);
    }

    /** "First come n + (u - 1) / 2^w + 1 bits .. then .. its low part in w bits": u = 512. */
    private static void widestEliasFano() {
        MonotonePostings x = with(0, 511);
        CHECK.is("partitions of [0, 511]", x.partitions(0), 1);
        CHECK.bits(x, 0, "01 100000 000000000 111111111" + "1010" + "00000000 11111111");
    }

    /** The same for n = 64 and u = 512: the greatest numbers in all fields of the header. */
    private static void fullEliasFano() {
        MonotonePostings x = new MonotonePostings();
        x.appendRange(0, 0, 8, 63);
        x.append(0, 511);
        CHECK.is("partitions(0)", x.partitions(0), 1);
        CHECK.facts(x, 0, 0, 2, 64, 0, 511, 346, 3);
        // Document i has the high part i, the last one too: 511 / 8 = 63.
        String highs = "10".repeat(64);
        CHECK.bits(x, 0, "01 111111 000000000 111111111" + highs + "000".repeat(63) + "111");
    }

    /** "The partitions of a list are those with the least sum of sizes": two of 52 before one of 53. */
    private static void leastSumFirst() {
        MonotonePostings x = new MonotonePostings();
        x.appendRange(0, 0, 1, 13);
        x.appendRange(0, 14, 1, 13);
        CHECK.is("codeLength(0)", x.codeLength(0), 52);
        CHECK.is("partitions(0)", x.partitions(0), 2);
        CHECK.facts(x, 0, 0, 0, 13, 0, 12, 26, 0);
        CHECK.facts(x, 0, 1, 0, 13, 14, 26, 26, 0);
        CHECK.is("as one partition", x.fixedLength(0, 64), 53);
    }

    /** "of several possibilities the one with the fewest partitions": one of 52 before two. */
    private static void fewestPartitions() {
        MonotonePostings x = new MonotonePostings();
        x.appendRange(0, 0, 1, 13);
        x.appendRange(0, 14, 1, 12);
        CHECK.is("codeLength(0)", x.codeLength(0), 52);
        CHECK.is("partitions(0)", x.partitions(0), 1);
        CHECK.is("as two partitions", x.fixedLength(0, 13), 52);
        // Behind another partition it is the same.
        x.clear(1);
        x.appendRange(1, 0, 1, 20);
        x.appendRange(1, 200, 1, 13);
        x.appendRange(1, 214, 1, 12);
        CHECK.is("codeLength(1)", x.codeLength(1), 78);
        CHECK.is("partitions(1)", x.partitions(1), 2);
    }

    /** "the one whose first partition has the fewest documents, then the second one, and so on". */
    private static void shortestFirstPartition() {
        // The document behind the last run can go with the run or with the last document.
        int[][] starts = {{}, {0}, {0, 100}};
        for (int[] runs : starts) {
            MonotonePostings x = new MonotonePostings();
            for (int start : runs) {
                x.appendRange(3, start, 1, 20);
            }
            x.appendRange(3, 202, 1, 7);
            x.append(3, 216);
            x.append(3, 289);
            CHECK.is("codeLength(3)", x.codeLength(3), 26 * runs.length + 67);
            CHECK.is("partitions(3)", x.partitions(3), runs.length + 2);
            CHECK.facts(x, 3, runs.length, 0, 7, 202, 208, 26, 0);
            CHECK.facts(x, 3, runs.length + 1, 2, 2, 216, 289, 41, 5);
        }
    }

    /** "The code of a list consists of its partitions, one after another.": one of each kind. */
    private static void oneAfterAnother() {
        MonotonePostings x = new MonotonePostings();
        x.appendRange(2, 0, 1, 20);
        x.appendRange(2, 203, 3, 20);
        x.appendRange(2, 300, 37, 6);
        CHECK.is("partitions(2)", x.partitions(2), 3);
        CHECK.facts(x, 2, 0, 0, 20, 0, 19, 26, 0);
        CHECK.facts(x, 2, 1, 1, 20, 203, 260, 84, 0);
        CHECK.facts(x, 2, 2, 2, 6, 300, 485, 68, 4);
        CHECK.is("codeLength(2)", x.codeLength(2), 26 + 84 + 68);
        CHECK.bits(x, 2, "00 110010 000000000 110010000"
                + "10 110010 110100110 100111000" + "100".repeat(19) + "1"
                + "01 101000 001101001 100111010"
                + "100100100100010010 0000 1010 0101 1111 0010 1001");
    }

    /** "An empty list has no partitions.": at first, when emptied, and as an operation's result. */
    private static void emptyList() {
        empty(new MonotonePostings());
        MonotonePostings x = with(1, 3, 400);
        x.clear(0);
        empty(x);
        x = with(1, 3, 400);
        x.subtract(0, 0, 0);
        empty(x);
        x = with(1, 3, 400);
        x.intersect(3, 0);
        empty(x);
        x = with(1, 3, 400);
        x.unite(1, 2, 0);
        empty(x);
        x = with(7);
        x.undo();
        empty(x);
    }

    private static void empty(MonotonePostings x) {
        CHECK.is("partitions of an empty list", x.partitions(0), 0);
        CHECK.is("codeLength of an empty list", x.codeLength(0), 0);
        CHECK.is("fixedLength of an empty list, 1", x.fixedLength(0, 1), 0);
        CHECK.is("fixedLength of an empty list, 64", x.fixedLength(0, 64), 0);
        CHECK.same("bitsPerDocument of an empty list", x.bitsPerDocument(0), 0.0);
        CHECK.refuses("partition of an empty list", x, Check.BOUNDS, () -> x.partition(0, 0, 0));
        CHECK.refuses("codeBit of an empty list", x, Check.BOUNDS, () -> x.codeBit(0, 0));
        CHECK.refuses("codeBit(0, -1) of an empty list", x, Check.BOUNDS, () -> x.codeBit(0, -1));
    }

    /** partition: "if there is no such list or partition". */
    private static void partitionIndex() {
        MonotonePostings x = Scenes.tenRuns();
        CHECK.is("partitions(1)", x.partitions(1), 10);
        CHECK.facts(x, 1, 0, 0, 6, 0, 5, 26, 0);
        CHECK.facts(x, 1, 9, 0, 6, 450, 455, 26, 0);
        for (int index : new int[] {-1, 10, 64, LOW, HIGH}) {
            CHECK.refuses("partition(1, " + index + ", 0)", x, Check.BOUNDS, () -> x.partition(1, index, 0));
        }
        // A partition that was there before does not stay behind the end.
        x.clear(1);
        x.append(1, 5);
        CHECK.refuses("partition(1, 1, 0) of 1", x, Check.BOUNDS, () -> x.partition(1, 1, 0));
        x.undo();
        CHECK.refuses("partition(1, 0, 0) of 0", x, Check.BOUNDS, () -> x.partition(1, 0, 0));
    }

    /** partition: "if what is out of range"; "w of kind 2 (0 for the other kinds)". */
    private static void partitionWhat() {
        MonotonePostings x = Scenes.threeKinds();
        CHECK.facts(x, 0, 0, 0, 20, 0, 19, 26, 0);
        CHECK.facts(x, 1, 0, 1, 30, 3, 90, 114, 0);
        CHECK.facts(x, 2, 0, 2, 6, 100, 285, 68, 4);
        // Three in 7 places would have w = 1, but it is a bitmap.
        x.appendRange(3, 0, 3, 3);
        CHECK.facts(x, 3, 0, 1, 3, 0, 6, 33, 0);
        for (int list = 0; list < 4; list++) {
            int asked = list;
            for (int what : new int[] {-1, 6, LOW, HIGH}) {
                CHECK.refuses("what = " + what, x, Check.ARGUMENT, () -> x.partition(asked, 0, what));
            }
        }
    }

    /** codeBit: "if there is no such list or bit". */
    private static void codeBitIndex() {
        MonotonePostings x = with(4, 6);
        CHECK.is("codeBit(0, 0)", x.codeBit(0, 0), 1);
        CHECK.is("codeBit(0, 28), the last one", x.codeBit(0, 28), 1);
        for (int index : new int[] {-1, 29, 30, 537, 538, LOW, HIGH}) {
            CHECK.refuses("codeBit(0, " + index + ")", x, Check.BOUNDS, () -> x.codeBit(0, index));
        }
        // Bits of a longer code before do not stay behind the end.
        x.appendRange(1, 7, 8, 64);
        CHECK.is("codeBit(1, 344), the last one", x.codeBit(1, 344), 0);
        CHECK.refuses("codeBit(1, 345)", x, Check.BOUNDS, () -> x.codeBit(1, 345));
        CHECK.refuses("codeBit(0, 29) after it", x, Check.BOUNDS, () -> x.codeBit(0, 29));
    }

    /** fixedLength: count is 1 to 64, "if count is out of range". */
    private static void fixedCount() {
        MonotonePostings x = Scenes.full();
        CHECK.is("fixedLength(0, 1)", x.fixedLength(0, 1), 64 * 26);
        CHECK.is("fixedLength(0, 64)", x.fixedLength(0, 64), 26 + 127);
        CHECK.is("fixedLength(1, 1)", x.fixedLength(1, 1), 64 * 26);
        CHECK.is("fixedLength(1, 64)", x.fixedLength(1, 64), 26);
        for (int wrong : new int[] {0, -1, 65, LOW, HIGH}) {
            CHECK.refuses("fixedLength(0, " + wrong + ")", x, Check.ARGUMENT, () -> x.fixedLength(0, wrong));
            CHECK.refuses("fixedLength(3, " + wrong + ")", x, Check.ARGUMENT, () -> x.fixedLength(3, wrong));
        }
    }

    /** fixedLength: "(the last one can have fewer)". */
    private static void fixedLastPartition() {
        // Seven documents, two apart: k of them are a bitmap of 2k - 1 places, one is a run.
        MonotonePostings x = new MonotonePostings();
        x.appendRange(0, 0, 2, 7);
        CHECK.is("fixedLength(0, 3), one left", x.fixedLength(0, 3), 31 + 31 + 26);
        CHECK.is("fixedLength(0, 4), three left", x.fixedLength(0, 4), 33 + 31);
        CHECK.is("fixedLength(0, 6), one left", x.fixedLength(0, 6), 37 + 26);
        CHECK.is("fixedLength(0, 7), all", x.fixedLength(0, 7), 39);
        CHECK.is("fixedLength(0, 8), more than all", x.fixedLength(0, 8), 39);
        x.append(0, 14);
        CHECK.is("fixedLength(0, 4), none left", x.fixedLength(0, 4), 33 + 33);
        MonotonePostings y = Scenes.full();
        CHECK.is("fixedLength(2, 62), one left", y.fixedLength(2, 62), 52);
        CHECK.is("fixedLength(1, 63), one left", y.fixedLength(1, 63), 52);
        CHECK.is("fixedLength(1, 32), none left", y.fixedLength(1, 32), 52);
    }

    /** bitsPerDocument: "0.0 for an empty list". */
    private static void meanOfEmptyAndFull() {
        MonotonePostings x = Scenes.full();
        CHECK.same("bitsPerDocument(3)", x.bitsPerDocument(3), 0.0);
        CHECK.same("bitsPerDocument(1)", x.bitsPerDocument(1), 0.40625);
        CHECK.same("bitsPerDocument(0)", x.bitsPerDocument(0), 2.390625);
        x.append(3, 0);
        CHECK.same("bitsPerDocument(3), one document", x.bitsPerDocument(3), 26.0);
        x.append(3, 2);
        x.append(3, 4);
        CHECK.same("bitsPerDocument(3), no whole number", x.bitsPerDocument(3), 31.0 / 3.0);
    }
}
