import java.util.Random;

/** Long runs of calls, the same every time, answered by the class and by the model alike. */
public final class ModelTest {
    private static final int RUNS = 100;
    private static final int CALLS = 512;
    private static final Check CHECK = new Check("ModelTest");

    public static void main(String[] args) {
        for (int run = 0; run < RUNS; run++) {
            compare(run);
        }
        CHECK.end();
    }

    private static void compare(int run) {
        Random random = new Random(run);
        MonotonePostings x = new MonotonePostings();
        Model m = new Model();
        for (int i = 0; i < CALLS; i++) {
            int before = random.nextInt();
            String where = "run " + run + ", call " + i + ": ";
            // Every 16th of the 512 calls is a digest, so that a wrong state does not stay hidden.
            String[] got = i % 16 == 15 ? told("digest", x::digest, m::digest)
                    : call(new Random(before), x, m, run);
            CHECK.same(where + got[0], got[1], got[2]);
        }
    }

    /** Mostly good numbers, with the limits and what lies beyond them among the others. */
    private static int number(Random r, int least, int most) {
        int[] edges = {least - 1, least, most, most + 1, Integer.MIN_VALUE, Integer.MAX_VALUE};
        return r.nextInt(40) == 0 ? edges[r.nextInt(edges.length)] : least + r.nextInt(most - least + 1);
    }

    /** The steps of a run: each has lists of its own density, so that all kinds come up. */
    private static int step(Random r, int run) {
        int[] most = {1, 2, 3, 6, 12, 40};
        return number(r, 1, most[(run + r.nextInt(3)) % most.length]);
    }

    private static int firstFor(Random r, Model m, int list) {
        if (list < 0 || list > 3 || m.size(list) == 0) {
            return number(r, 0, r.nextBoolean() ? 20 : 511);
        }
        int last = m.document(list, m.size(list) - 1);
        return last + number(r, 1, r.nextInt(3) == 0 ? 60 : 4);
    }

    private static String[] told(String name, Check.Call own, Check.Call due) {
        return new String[] {name, Check.outcome(own), Check.outcome(due)};
    }

    private static String[] call(Random r, MonotonePostings x, Model m, int run) {
        int which = r.nextInt(34);
        return which < 18 ? change(which, r, x, m, run) : look(which, r, x, m);
    }

    private static String[] change(int which, Random r, MonotonePostings x, Model m, int run) {
        int a = number(r, 0, 3);
        int b = number(r, 0, 3);
        int c = number(r, 0, 3);
        int set = number(r, 1, 15);
        int query = number(r, 0, 511);
        int near = number(r, 0, 150);
        int first = firstFor(r, m, a);
        int step = step(r, run);
        int count = number(r, 1, r.nextInt(8) == 0 ? 64 : 12);
        switch (which) {
            case 0: case 1:
                return told("append", () -> x.append(a, first), () -> m.append(a, first));
            case 2: case 3: case 4: case 5:
                return told("appendRange", () -> x.appendRange(a, first, step, count),
                        () -> m.appendRange(a, first, step, count));
            case 6:
                return told("clear", () -> x.clear(a), () -> m.clear(a));
            case 7: case 8: case 9:
                return told("nextAtLeast", () -> x.nextAtLeast(a, query), () -> m.nextAtLeast(a, query));
            case 10: case 11:
                return told("nextAtLeast", () -> x.nextAtLeast(a, near), () -> m.nextAtLeast(a, near));
            case 12:
                return told("countIntersection", () -> x.countIntersection(set),
                        () -> m.countIntersection(set));
            case 13:
                return told("intersect", () -> x.intersect(set, a), () -> m.intersect(set, a));
            case 14:
                return told("unite", () -> x.unite(a, b, c), () -> m.unite(a, b, c));
            case 15:
                return told("subtract", () -> x.subtract(a, b, c), () -> m.subtract(a, b, c));
            case 16:
                return told("setCapacity", () -> x.setCapacity(count % 10 - 1),
                        () -> m.setCapacity(count % 10 - 1));
            default:
                return told("undo", x::undo, m::undo);
        }
    }

    private static String[] look(int which, Random r, MonotonePostings x, Model m) {
        int a = number(r, 0, 3);
        int index = number(r, 0, 40);
        int part = number(r, 0, 2);
        int what = number(r, 0, 5);
        int bit = number(r, 0, 250);
        int border = number(r, 0, 512);
        int count = number(r, 1, 64);
        switch (which) {
            case 18:
                return told("size", () -> x.size(a), () -> m.size(a));
            case 19:
                return told("document", () -> x.document(a, index), () -> m.document(a, index));
            case 20:
                return told("rank", () -> x.rank(a, border), () -> m.rank(a, border));
            case 21:
                return told("partitions", () -> x.partitions(a), () -> m.partitions(a));
            case 22: case 23:
                return told("partition", () -> x.partition(a, part, what), () -> m.partition(a, part, what));
            case 24:
                return told("codeLength", () -> x.codeLength(a), () -> m.codeLength(a));
            case 25: case 26:
                return told("codeBit", () -> x.codeBit(a, bit), () -> m.codeBit(a, bit));
            case 27:
                return told("fixedLength", () -> x.fixedLength(a, count), () -> m.fixedLength(a, count));
            case 28:
                return told("bitsPerDocument", () -> Double.doubleToLongBits(x.bitsPerDocument(a)),
                        () -> Double.doubleToLongBits(m.bitsPerDocument(a)));
            case 29:
                return told("reads", x::reads, m::reads);
            case 30:
                return told("hits", x::hits, m::hits);
            case 31:
                return told("cached", x::cached, m::cached);
            case 32:
                return told("cachedAt", () -> x.cachedAt(part), () -> m.cachedAt(part));
            default:
                return told("digest", x::digest, m::digest);
        }
    }
}
