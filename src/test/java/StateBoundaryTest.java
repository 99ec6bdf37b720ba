import java.math.BigInteger;
import java.util.ArrayList;
import java.util.List;

/** The boundary cases of "Undo" and of the promises 24 and 25; above each test stands its sentence. */
public final class StateBoundaryTest {
    private static final Check CHECK = new Check("StateBoundaryTest");

    private interface Deed {
        long answer(MonotonePostings x);
    }

    public static void main(String[] args) {
        savedWithoutChange();
        savedByEachMethod();
        notSavedByLooking();
        atMostFour();
        oldestDroppedFirst();
        undoIsNotSaved();
        newCallsAfterUndo();
        savedLists();
        savedCache();
        savedReadsAndHits();
        noSavedState();
        lastCalls();
        digestOfNew();
        digestOverflow();
        digestOfEachValue();
        CHECK.end();
    }

    private static int undoAll(MonotonePostings x) {
        int undone = 0;
        while (undone < 10 && !Check.outcome(x::undo).equals(Check.STATE)) {
            undone++;
        }
        return undone;
    }

    /** "Each successful call .. saves the state from before the call, even if the call changes nothing". */
    private static void savedWithoutChange() {
        saves("clear of an empty list", x -> x.clear(0));
        saves("nextAtLeast in an empty list", x -> x.nextAtLeast(0, 0));
        saves("countIntersection of empty lists", x -> x.countIntersection(15));
        saves("intersect of empty lists", x -> x.intersect(3, 2));
        saves("unite of empty lists", x -> x.unite(0, 1, 2));
        saves("subtract of empty lists", x -> x.subtract(0, 1, 2));
        saves("setCapacity to the same", x -> x.setCapacity(4));
    }

    private static void saves(String name, Deed deed) {
        MonotonePostings x = new MonotonePostings();
        long before = x.digest();
        deed.answer(x);
        CHECK.same(name + " changes the number of saved states", x.digest() == before + 1, true);
        CHECK.is("undo() of " + name, x.undo(), 0);
        CHECK.is("digest() after it", x.digest(), before);
        CHECK.refuses("undo() once more", x, Check.STATE, x::undo);
    }

    /** The same for each method whose description says "undoable", where it does change something. */
    private static void savedByEachMethod() {
        Deed[] deeds = {x -> x.append(3, 0), x -> x.appendRange(3, 0, 1, 64), x -> x.clear(0),
            x -> x.nextAtLeast(2, 101), x -> x.countIntersection(7), x -> x.intersect(1, 2),
            x -> x.unite(0, 1, 2), x -> x.subtract(1, 0, 0), x -> x.setCapacity(0)};
        for (int i = 0; i < deeds.length; i++) {
            MonotonePostings x = Scenes.withoutSaved(Scenes.threeKinds());
            x.nextAtLeast(1, 40);
            Scenes.withoutSaved(x);
            long before = x.digest();
            deeds[i].answer(x);
            CHECK.same("undoable method " + i + " changes something", x.digest() != before + 1, true);
            CHECK.is("undo() of undoable method " + i, x.undo(), 0);
            CHECK.is("digest() after it", x.digest(), before);
        }
    }

    /** A method that is not undoable saves nothing, undo and digest among them. */
    private static void notSavedByLooking() {
        Deed[] deeds = {x -> x.size(0), x -> x.document(0, 0), x -> x.rank(0, 0), x -> x.partitions(0),
            x -> x.partition(0, 0, 0), x -> x.codeLength(0), x -> x.codeBit(0, 0),
            x -> x.fixedLength(0, 1), x -> (long) x.bitsPerDocument(0), MonotonePostings::reads,
            MonotonePostings::hits, MonotonePostings::cached, x -> x.cachedAt(0),
            MonotonePostings::digest};
        for (int i = 0; i < deeds.length; i++) {
            MonotonePostings x = Scenes.threeKinds();
            x.nextAtLeast(1, 40);
            Scenes.withoutSaved(x);
            long before = x.digest();
            deeds[i].answer(x);
            CHECK.is("digest() after looking " + i, x.digest(), before);
            CHECK.refuses("undo() after looking " + i, x, Check.STATE, x::undo);
        }
    }

    /** "at most 4 states are saved": after none, one .. seven calls. */
    private static void atMostFour() {
        for (int calls = 0; calls <= 7; calls++) {
            MonotonePostings x = new MonotonePostings();
            for (int i = 0; i < calls; i++) {
                x.append(0, i);
            }
            CHECK.is("states saved by " + calls + " calls", undoAll(x), Math.min(calls, 4));
            CHECK.is("size(0) then", x.size(0), Math.max(calls - 4, 0));
        }
    }

    /** "and the oldest is dropped first"; "Returns the number of saved states that remain." */
    private static void oldestDroppedFirst() {
        MonotonePostings x = new MonotonePostings();
        for (int i = 0; i < 5; i++) {
            x.append(0, 10 * i);
        }
        for (int left = 3; left >= 0; left--) {
            CHECK.is("undo()", x.undo(), left);
            CHECK.is("size(0)", x.size(0), left + 1);
        }
        CHECK.documents(x, 0, 0);
    }

    /** undo: "Restores the most recently saved state and removes it": it does not go to and fro. */
    private static void undoIsNotSaved() {
        MonotonePostings x = new MonotonePostings();
        x.append(0, 1);
        x.append(0, 2);
        CHECK.is("undo()", x.undo(), 1);
        CHECK.documents(x, 0, 1);
        CHECK.is("undo() again", x.undo(), 0);
        CHECK.documents(x, 0);
        CHECK.refuses("undo(), none left", x, Check.STATE, x::undo);
    }

    /** New calls after undone ones, at each place of four saved states and beyond. */
    private static void newCallsAfterUndo() {
        for (int first = 0; first <= 6; first++) {
            for (int back = 0; back <= Math.min(first, 4); back++) {
                for (int more = 0; more <= 5; more++) {
                    toAndFro(first, back, more);
                }
            }
        }
    }

    private static void toAndFro(int first, int back, int more) {
        String name = first + " calls, " + back + " undone, " + more + " more: ";
        MonotonePostings x = new MonotonePostings();
        List<Integer> sizes = new ArrayList<>();
        for (int i = 0; i < first; i++) {
            sizes.add(x.size(0));
            x.append(0, 2 * i);
        }
        for (int i = 0; i < back; i++) {
            x.undo();
            sizes.remove(sizes.size() - 1);
        }
        int lost = Math.max(first - 4, 0);
        for (int i = 0; i < more; i++) {
            sizes.add(x.size(0));
            x.append(0, 100 + i);
        }
        int left = Math.min(sizes.size() - lost, 4);
        for (int i = left - 1; i >= 0; i--) {
            CHECK.is(name + "undo()", x.undo(), i);
            CHECK.is(name + "size(0)", x.size(0), sizes.remove(sizes.size() - 1));
        }
        CHECK.refuses(name + "undo()", x, Check.STATE, x::undo);
    }

    /** "The saved state contains the lists": all of them, with their partitions. */
    private static void savedLists() {
        MonotonePostings x = Scenes.threeKinds();
        x.clear(0);
        x.clear(1);
        x.unite(2, 2, 3);
        x.append(2, 511);
        for (int i = 0; i < 4; i++) {
            x.undo();
        }
        CHECK.facts(x, 0, 0, 0, 20, 0, 19, 26, 0);
        CHECK.facts(x, 1, 0, 1, 30, 3, 90, 114, 0);
        CHECK.facts(x, 2, 0, 2, 6, 100, 285, 68, 4);
        CHECK.documents(x, 2, 100, 137, 174, 211, 248, 285);
        CHECK.documents(x, 3);
        CHECK.is("partitions(3)", x.partitions(3), 0);
    }

    /** "the cache with its capacity": what was dropped comes back in its order, what came goes. */
    private static void savedCache() {
        MonotonePostings x = Scenes.fourRuns();
        for (int k = 0; k < 4; k++) {
            x.nextAtLeast(2, 100 * k + 1);
        }
        x.nextAtLeast(2, 101);
        CHECK.cache(x, "after a hit", 200, 202, 203, 201);
        x.setCapacity(2);
        x.setCapacity(0);
        x.clear(2);
        x.undo();
        x.undo();
        CHECK.cache(x, "of 2", 203, 201);
        x.undo();
        CHECK.cache(x, "of 4", 200, 202, 203, 201);
        CHECK.is("undo() of the hit", x.undo(), 0);
        CHECK.cache(x, "before the hit", 200, 201, 202, 203);
        CHECK.is("setCapacity(8)", x.setCapacity(8), 4);
    }

    /** "and the numbers of reads and hits". */
    private static void savedReadsAndHits() {
        MonotonePostings x = Scenes.threeKinds();
        x.nextAtLeast(1, 40);
        x.nextAtLeast(1, 40);
        x.countIntersection(2);
        CHECK.same("reads of the intersection", x.reads() > 3, true);
        x.undo();
        CHECK.counters(x, "after one undone", 3, 1, 1);
        x.undo();
        CHECK.counters(x, "after two undone", 2, 0, 1);
        x.undo();
        CHECK.counters(x, "after three undone", 0, 0, 0);
    }

    /** undo: "if there is no saved state": at first, and when all are used up. */
    private static void noSavedState() {
        MonotonePostings x = new MonotonePostings();
        CHECK.refuses("undo(), new", x, Check.STATE, x::undo);
        CHECK.refuses("undo(), new, again", x, Check.STATE, x::undo);
        x.append(0, 5);
        CHECK.is("undo()", x.undo(), 0);
        CHECK.refuses("undo(), used up", x, Check.STATE, x::undo);
        CHECK.refuses("append that is refused", x, Check.ARGUMENT, () -> x.append(0, 512));
        CHECK.refuses("undo() after a refused call", x, Check.STATE, x::undo);
    }

    /** "An object is used for at most 512 calls": the 512th answers like the first. */
    private static void lastCalls() {
        MonotonePostings x = new MonotonePostings();
        for (int i = 0; i < 507; i++) {
            CHECK.is("call " + i, x.setCapacity(i % 9), i == 0 ? 4 : (i - 1) % 9);
        }
        for (int left = 3; left >= 0; left--) {
            CHECK.is("undo()", x.undo(), left);
        }
        CHECK.is("call 512", x.setCapacity(0), 502 % 9);
        MonotonePostings y = Scenes.fourRuns();
        for (int i = 16; i < 511; i++) {
            y.nextAtLeast(3, 511);
        }
        CHECK.is("call 512", y.reads(), 495 * 4);
    }

    /** digest: "Start with h = 2791 and, for each of the following values v, set h = 31 * h + v". */
    private static void digestOfNew() {
        CHECK.hash(new MonotonePostings(), "of a new object", 0, 0, 0, 0, 0, 0, 0, 0, 4, 0, 0, 0, 0);
    }

    /** digest: "with the overflow of long arithmetic ignored": a full list, worked out without overflow. */
    private static void digestOverflow() {
        MonotonePostings x = new MonotonePostings();
        x.appendRange(2, 7, 8, 64);
        List<Integer> values = new ArrayList<>(List.of(0, 0, 0, 0, 64));
        for (int i = 0; i < 64; i++) {
            values.add(7 + 8 * i);
        }
        values.addAll(List.of(1, 2, 64, 7, 511, 345, 2));
        int length = x.codeLength(2);
        for (int i = 0; i < length; i++) {
            values.add(x.codeBit(2, i));
        }
        values.addAll(List.of(0, 0, 4, 0, 0, 0, 1));
        BigInteger h = BigInteger.valueOf(2791);
        for (int v : values) {
            h = h.multiply(BigInteger.valueOf(31)).add(BigInteger.valueOf(v));
        }
        CHECK.is("digest() of a full list", x.digest(), h.longValue());
        CHECK.same("there was an overflow", h.bitLength() > 64, true);
    }

    /** digest: the capacity, the cache, reads, hits and the saved states, each at its ends. */
    private static void digestOfEachValue() {
        MonotonePostings x = new MonotonePostings();
        x.setCapacity(0);
        CHECK.hash(x, "with the capacity 0", 0, 0, 0, 0, 0, 0, 0, 0, 0, 0, 0, 0, 1);
        x.setCapacity(8);
        x.setCapacity(8);
        x.setCapacity(8);
        CHECK.hash(x, "with four saved states", 0, 0, 0, 0, 0, 0, 0, 0, 8, 0, 0, 0, 4);
        x.setCapacity(8);
        CHECK.hash(x, "with one more call", 0, 0, 0, 0, 0, 0, 0, 0, 8, 0, 0, 0, 4);
        Scenes.withoutSaved(x);
        CHECK.hash(x, "without saved states", 0, 0, 0, 0, 0, 0, 0, 0, 8, 0, 0, 0, 0);
        fullCacheInDigest();
    }

    private static void fullCacheInDigest() {
        MonotonePostings x = Scenes.tenRuns();
        x.setCapacity(8);
        for (int k = 9; k >= 2; k--) {
            x.nextAtLeast(2, 50 * k + 1);
        }
        x.nextAtLeast(2, 102);
        long h = 2791;
        for (int list = 0; list < 4; list++) {
            h = listInDigest(h, list == 1 || list == 2 ? 10 : 0);
        }
        int reads = 10 + 9 + 8 + 7 + 6 + 5 + 4 + 3 + 3;
        int[] rest = {8, 8, 209, 208, 207, 206, 205, 204, 203, 202, reads, 1, 4};
        for (int v : rest) {
            h = 31 * h + v;
        }
        CHECK.is("digest() with a full cache", x.digest(), h);
    }

    /** A list of runs of six documents each: its number, documents, partitions and bits. */
    private static long listInDigest(long start, int runs) {
        List<Integer> values = new ArrayList<>();
        values.add(6 * runs);
        for (int i = 0; i < 6 * runs; i++) {
            values.add(50 * (i / 6) + i % 6);
        }
        values.add(runs);
        for (int k = 0; k < runs; k++) {
            values.addAll(List.of(0, 6, 50 * k, 50 * k + 5, 26, 0));
        }
        for (int k = 0; k < runs; k++) {
            int header = 5 << 2 | 50 * k << 8 | 5 << 17;
            for (int i = 0; i < 26; i++) {
                values.add(header >> i & 1);
            }
        }
        long h = start;
        for (int v : values) {
            h = 31 * h + v;
        }
        return h;
    }
}
