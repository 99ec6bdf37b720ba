/**
 * Each method with all combinations of numbers at and beyond its limits, answered by the class and
 * by the model alike: no argument in any of these states makes the machine throw.
 */
public final class EdgesTest {
    private static final Check CHECK = new Check("EdgesTest");
    private static final int LOW = Integer.MIN_VALUE;
    private static final int HIGH = Integer.MAX_VALUE;
    private static final int[] LISTS = {LOW, -1, 0, 1, 2, 3, 4, HIGH};
    private static final int[] NUMBERS = {LOW, LOW + 1, -512, -2, -1, 0, 1, 2, 3, 4, 5, 6, 7, 8, 9, 15,
        16, 25, 26, 62, 63, 64, 65, 126, 127, 128, 152, 153, 447, 448, 449, 510, 511, 512, 513, 537,
        538, 1 << 30, HIGH - 1, HIGH};
    private static final int[] STEPS = {LOW, -1, 0, 1, 2, 8, 9, 510, 511, 512, 1 << 30, HIGH};
    private static final int[] COUNTS = {LOW, -1, 0, 1, 2, 3, 5, 63, 64, 65, (1 << 28) + 1, HIGH};

    // Ranges as of appendRange: nothing; one list of each kind; full lists and one with room for one.
    private static final int[][][] SCENES = {
        {},
        {{0, 0, 1, 20}, {0, 100, 1, 20}, {1, 3, 3, 30}, {2, 100, 37, 6}},
        {{0, 0, 2, 64}, {1, 448, 1, 64}, {2, 0, 1, 63}},
    };

    private MonotonePostings x;
    private Model m;
    private final int[][] ranges;

    private EdgesTest(int[][] ranges) {
        this.ranges = ranges;
        renew();
    }

    public static void main(String[] args) {
        for (int[][] ranges : SCENES) {
            EdgesTest test = new EdgesTest(ranges);
            test.withoutList();
            for (int list : LISTS) {
                test.ofList(list);
                test.ofListAndNumber(list);
                test.ranges(list);
                test.operations(list);
            }
        }
        CHECK.end();
    }

    /** New ones, so that no object is asked more than 512 times. */
    private void renew() {
        x = new MonotonePostings();
        m = new Model();
        for (int[] r : ranges) {
            x.appendRange(r[0], r[1], r[2], r[3]);
            m.appendRange(r[0], r[1], r[2], r[3]);
        }
        CHECK.is("nextAtLeast", x.nextAtLeast(1, 449), m.nextAtLeast(1, 449));
    }

    private void same(String name, Check.Call own, Check.Call due) {
        CHECK.same(name, Check.outcome(own), Check.outcome(due));
    }

    /** The same call, and then its undo, so that the next one begins alike. */
    private void undone(String name, Check.Call own, Check.Call due) {
        String outcome = Check.outcome(due);
        CHECK.same(name, Check.outcome(own), outcome);
        if (!outcome.endsWith("Exception")) {
            CHECK.is(name + ", reads()", x.reads(), m.reads());
            CHECK.is(name + ", undo()", x.undo(), m.undo());
        }
    }

    private void withoutList() {
        renew();
        for (int n : NUMBERS) {
            undone("countIntersection(" + n + ")", () -> x.countIntersection(n), () -> m.countIntersection(n));
            undone("setCapacity(" + n + ")", () -> x.setCapacity(n), () -> m.setCapacity(n));
            same("cachedAt(" + n + ")", () -> x.cachedAt(n), () -> m.cachedAt(n));
        }
        CHECK.is("digest()", x.digest(), m.digest());
    }

    private void ofList(int list) {
        renew();
        undone("clear(" + list + ")", () -> x.clear(list), () -> m.clear(list));
        same("size(" + list + ")", () -> x.size(list), () -> m.size(list));
        same("partitions(" + list + ")", () -> x.partitions(list), () -> m.partitions(list));
        same("codeLength(" + list + ")", () -> x.codeLength(list), () -> m.codeLength(list));
        same("bitsPerDocument(" + list + ")", () -> Double.doubleToLongBits(x.bitsPerDocument(list)),
                () -> Double.doubleToLongBits(m.bitsPerDocument(list)));
        CHECK.is("digest()", x.digest(), m.digest());
    }

    private void ofListAndNumber(int list) {
        renew();
        for (int n : NUMBERS) {
            String arguments = "(" + list + ", " + n + ")";
            undone("append" + arguments, () -> x.append(list, n), () -> m.append(list, n));
            same("document" + arguments, () -> x.document(list, n), () -> m.document(list, n));
            same("rank" + arguments, () -> x.rank(list, n), () -> m.rank(list, n));
            same("codeBit" + arguments, () -> x.codeBit(list, n), () -> m.codeBit(list, n));
            same("fixedLength" + arguments, () -> x.fixedLength(list, n), () -> m.fixedLength(list, n));
            undone("nextAtLeast" + arguments, () -> x.nextAtLeast(list, n), () -> m.nextAtLeast(list, n));
            undone("intersect(" + n + ", " + list + ")", () -> x.intersect(n, list), () -> m.intersect(n, list));
        }
        renew();
        for (int index : new int[] {LOW, -1, 0, 1, 2, 3, 63, 64, 65, HIGH}) {
            for (int what : new int[] {LOW, -1, 0, 1, 2, 3, 4, 5, 6, 7, HIGH}) {
                String call = "partition(" + list + ", " + index + ", " + what + ")";
                same(call, () -> x.partition(list, index, what), () -> m.partition(list, index, what));
            }
        }
        CHECK.is("digest()", x.digest(), m.digest());
    }

    private void ranges(int list) {
        for (int first : NUMBERS) {
            renew();
            for (int step : STEPS) {
                for (int count : COUNTS) {
                    String call = "appendRange(" + list + ", " + first + ", " + step + ", " + count + ")";
                    undone(call, () -> x.appendRange(list, first, step, count),
                            () -> m.appendRange(list, first, step, count));
                }
            }
        }
        CHECK.is("digest()", x.digest(), m.digest());
    }

    private void operations(int a) {
        for (int b : LISTS) {
            renew();
            for (int target : LISTS) {
                String arguments = "(" + a + ", " + b + ", " + target + ")";
                undone("unite" + arguments, () -> x.unite(a, b, target), () -> m.unite(a, b, target));
                undone("subtract" + arguments, () -> x.subtract(a, b, target), () -> m.subtract(a, b, target));
            }
        }
        CHECK.is("digest()", x.digest(), m.digest());
    }
}
