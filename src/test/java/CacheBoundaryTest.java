/** The boundary cases of "Cache" and of the promises 21 to 23; above each test stands its sentence. */
public final class CacheBoundaryTest {
    private static final Check CHECK = new Check("CacheBoundaryTest");
    private static final int LOW = Integer.MIN_VALUE;
    private static final int HIGH = Integer.MAX_VALUE;

    private interface Deed {
        long answer(MonotonePostings x);
    }

    public static void main(String[] args) {
        capacityRange();
        capacityInitially();
        previousCapacity();
        openedOfAnyKind();
        openedAfterHit();
        fullByInitialCapacity();
        fullByGreatestCapacity();
        fullByCapacityOne();
        hitInFullCache();
        capacityZero();
        reduced();
        raised();
        droppedByEachChange();
        droppedWithoutChange();
        droppedAlone();
        droppedAll();
        notDroppedAsSource();
        cachedAtIndex();
        cachedAtTwoDigits();
        CHECK.end();
    }

    /** Opens partition k of a list of Scenes.fourRuns(). */
    private static void open(MonotonePostings x, int list, int k) {
        x.nextAtLeast(list, 100 * k + 1);
    }

    /** setCapacity: "its capacity is 0 to 8"; "if capacity is out of range". */
    private static void capacityRange() {
        MonotonePostings x = Scenes.fourRuns();
        open(x, 0, 0);
        for (int wrong : new int[] {-1, 9, LOW, HIGH}) {
            CHECK.refuses("setCapacity(" + wrong + ")", x, Check.ARGUMENT, () -> x.setCapacity(wrong));
        }
        CHECK.is("setCapacity(8)", x.setCapacity(8), 4);
        CHECK.is("setCapacity(0)", x.setCapacity(0), 8);
        CHECK.is("setCapacity(0) again", x.setCapacity(0), 0);
    }

    /** "its capacity is 0 to 8, initially 4". */
    private static void capacityInitially() {
        CHECK.is("setCapacity(1) of a new object", new MonotonePostings().setCapacity(1), 4);
    }

    /** setCapacity: "Returns the previous capacity.", each from 0 to 8. */
    private static void previousCapacity() {
        MonotonePostings x = new MonotonePostings();
        int previous = 4;
        for (int capacity = 0; capacity <= 8; capacity++) {
            CHECK.is("setCapacity(" + capacity + ")", x.setCapacity(capacity), previous);
            CHECK.is("the same once more", x.setCapacity(capacity), capacity);
            previous = capacity;
        }
        x.undo();
        x.undo();
        CHECK.is("setCapacity(8) after two undone", x.setCapacity(8), 7);
    }

    /** "An opened partition (of any kind ..) becomes the most recent one of the cache". */
    private static void openedOfAnyKind() {
        MonotonePostings x = Scenes.threeKinds();
        CHECK.cache(x, "of a new object");
        x.nextAtLeast(2, 101);
        CHECK.cache(x, "after an Elias-Fano partition", 200);
        x.nextAtLeast(1, 40);
        CHECK.cache(x, "after a bitmap", 200, 100);
        x.nextAtLeast(0, 1);
        CHECK.cache(x, "after a run", 200, 100, 0);
    }

    /** "(.. after a hit, too) becomes the most recent one": the least, a middle and the most recent. */
    private static void openedAfterHit() {
        MonotonePostings x = Scenes.fourRuns();
        for (int k = 0; k < 4; k++) {
            open(x, 0, k);
        }
        CHECK.cache(x, "at first", 0, 1, 2, 3);
        open(x, 0, 0);
        CHECK.cache(x, "after a hit of the least recent", 1, 2, 3, 0);
        open(x, 0, 2);
        CHECK.cache(x, "after a hit in the middle", 1, 3, 0, 2);
        open(x, 0, 2);
        CHECK.cache(x, "after a hit of the most recent", 1, 3, 0, 2);
        CHECK.is("hits()", x.hits(), 3);
        x.clear(1);
        x.clear(2);
        CHECK.cache(x, "after changes of other lists", 1, 3, 0, 2);
    }

    /** "if it was not in the cache and the cache is full, the least recent one is dropped first". */
    private static void fullByInitialCapacity() {
        MonotonePostings x = Scenes.fourRuns();
        for (int k = 0; k < 3; k++) {
            open(x, 1, k);
        }
        CHECK.cache(x, "with room for one", 100, 101, 102);
        open(x, 1, 3);
        CHECK.cache(x, "just full", 100, 101, 102, 103);
        open(x, 0, 0);
        CHECK.cache(x, "one more", 101, 102, 103, 0);
        open(x, 1, 0);
        CHECK.cache(x, "the dropped one again", 102, 103, 0, 100);
        CHECK.is("hits(), it was no hit", x.hits(), 0);
    }

    /** The same for the capacity 8. */
    private static void fullByGreatestCapacity() {
        MonotonePostings x = Scenes.fourRuns();
        x.setCapacity(8);
        for (int i = 0; i < 8; i++) {
            open(x, i / 4, i % 4);
        }
        CHECK.cache(x, "just full", 0, 1, 2, 3, 100, 101, 102, 103);
        open(x, 3, 3);
        CHECK.cache(x, "one more", 1, 2, 3, 100, 101, 102, 103, 303);
        open(x, 3, 2);
        CHECK.cache(x, "two more", 2, 3, 100, 101, 102, 103, 303, 302);
    }

    /** The same for the capacity 1. */
    private static void fullByCapacityOne() {
        MonotonePostings x = Scenes.fourRuns();
        x.setCapacity(1);
        open(x, 0, 0);
        CHECK.cache(x, "just full", 0);
        open(x, 0, 0);
        CHECK.cache(x, "after a hit", 0);
        open(x, 0, 1);
        CHECK.cache(x, "one more", 1);
        CHECK.is("hits()", x.hits(), 1);
    }

    /** "if it was not in the cache": a hit in a full cache drops nothing. */
    private static void hitInFullCache() {
        MonotonePostings x = Scenes.fourRuns();
        x.setCapacity(2);
        open(x, 0, 0);
        open(x, 0, 1);
        open(x, 0, 1);
        CHECK.cache(x, "after a hit of the most recent", 0, 1);
        open(x, 0, 0);
        CHECK.cache(x, "after a hit of the least recent", 1, 0);
        CHECK.is("hits()", x.hits(), 2);
    }

    /** "With the capacity 0 the cache stays empty." */
    private static void capacityZero() {
        MonotonePostings x = Scenes.threeKinds();
        x.setCapacity(0);
        for (int i = 0; i < 2; i++) {
            x.nextAtLeast(0, 1);
            x.nextAtLeast(1, 40);
            x.nextAtLeast(2, 101);
            CHECK.counters(x, "round " + i, (i + 1) * (1 + 2 + 4), 0, 0);
        }
        x.countIntersection(7);
        x.intersect(1, 3);
        CHECK.cache(x, "after intersections");
        CHECK.is("hits() after intersections", x.hits(), 0);
        CHECK.refuses("cachedAt(0)", x, Check.BOUNDS, () -> x.cachedAt(0));
        x.setCapacity(1);
        CHECK.cache(x, "of 1");
        x.nextAtLeast(1, 40);
        CHECK.cache(x, "of 1, after a query", 100);
    }

    /** "If the capacity is reduced, the least recent ones are dropped." */
    private static void reduced() {
        MonotonePostings x = Scenes.fourRuns();
        x.setCapacity(8);
        for (int i = 0; i < 8; i++) {
            open(x, i / 4, i % 4);
        }
        x.setCapacity(7);
        CHECK.cache(x, "of 7", 1, 2, 3, 100, 101, 102, 103);
        x.setCapacity(7);
        CHECK.cache(x, "of 7 again", 1, 2, 3, 100, 101, 102, 103);
        x.setCapacity(2);
        CHECK.cache(x, "of 2", 102, 103);
        x.setCapacity(1);
        CHECK.cache(x, "of 1", 103);
        x.setCapacity(0);
        CHECK.cache(x, "of 0");
        MonotonePostings y = Scenes.fourRuns();
        open(y, 2, 3);
        open(y, 2, 1);
        y.setCapacity(3);
        CHECK.cache(y, "reduced to more than there are", 203, 201);
        y.setCapacity(2);
        CHECK.cache(y, "reduced to as many as there are", 203, 201);
    }

    /** A raised capacity drops nothing and brings nothing back. */
    private static void raised() {
        MonotonePostings x = Scenes.fourRuns();
        open(x, 0, 0);
        open(x, 0, 1);
        x.setCapacity(1);
        x.setCapacity(2);
        CHECK.cache(x, "of 2", 1);
        open(x, 0, 0);
        CHECK.cache(x, "of 2, just full", 1, 0);
        x.setCapacity(3);
        open(x, 0, 2);
        CHECK.cache(x, "of 3, just full", 1, 0, 2);
        CHECK.is("hits()", x.hits(), 0);
    }

    /** The target's partitions are dropped, those of the other lists stay in their order. */
    private static void drops(String name, Deed deed) {
        MonotonePostings x = Scenes.fourRuns();
        x.setCapacity(8);
        for (int i = 0; i < 4; i++) {
            open(x, i, 3 - i);
            open(x, i, 0);
        }
        CHECK.cache(x, "before " + name, 3, 0, 102, 100, 201, 200, 300);
        deed.answer(x);
        CHECK.cache(x, "after " + name, 3, 0, 201, 200, 300);
        x.undo();
        CHECK.cache(x, "after undo of " + name, 3, 0, 102, 100, 201, 200, 300);
    }

    /** "When the documents of a list change, .. all its partitions are dropped from the cache." */
    private static void droppedByEachChange() {
        drops("append", x -> x.append(1, 511));
        drops("appendRange", x -> x.appendRange(1, 315, 1, 1));
        drops("clear", x -> x.clear(1));
        drops("subtract to nothing", x -> x.subtract(0, 2, 1));
    }

    /** "or a list is written by an operation": with the same documents as before, too. */
    private static void droppedWithoutChange() {
        drops("unite of equal lists", x -> x.unite(0, 2, 1));
        drops("unite with itself", x -> x.unite(1, 1, 1));
        MonotonePostings x = Scenes.fourRuns();
        x.clear(3);
        open(x, 1, 0);
        open(x, 0, 0);
        x.subtract(1, 3, 1);
        CHECK.cache(x, "after subtract of nothing", 0);
        open(x, 1, 0);
        // The queries of the intersection open all four partitions of list 1, then they are dropped.
        x.intersect(2, 1);
        CHECK.cache(x, "after intersect with itself");
        CHECK.is("size(1)", x.size(1), 60);
    }

    /** A change of a list of which nothing is cached drops nothing. */
    private static void droppedAlone() {
        MonotonePostings x = Scenes.fourRuns();
        open(x, 1, 3);
        open(x, 3, 0);
        x.append(2, 400);
        x.clear(0);
        x.clear(0);
        x.unite(0, 0, 2);
        CHECK.cache(x, "of other lists", 103, 300);
    }

    /** "all its partitions": a full cache of one list's partitions becomes empty. */
    private static void droppedAll() {
        MonotonePostings x = Scenes.tenRuns();
        x.setCapacity(8);
        for (int k = 2; k < 10; k++) {
            x.nextAtLeast(1, 50 * k + 1);
        }
        CHECK.cache(x, "of one list", 102, 103, 104, 105, 106, 107, 108, 109);
        x.append(1, 500);
        CHECK.cache(x, "after a change of it");
    }

    /** The lists that an operation only looks at are not written. */
    private static void notDroppedAsSource() {
        MonotonePostings x = Scenes.fourRuns();
        open(x, 0, 0);
        open(x, 1, 0);
        x.unite(0, 1, 2);
        x.subtract(0, 1, 2);
        CHECK.cache(x, "of the sources", 0, 100);
        x.countIntersection(8);
        CHECK.cache(x, "after the queries of countIntersection", 300, 301, 302, 303);
        x.intersect(8, 0);
        CHECK.cache(x, "after the queries of intersect", 300, 301, 302, 303);
    }

    /** cachedAt: "if the cache has no such index"; "index, 0 for the least recent one". */
    private static void cachedAtIndex() {
        MonotonePostings x = Scenes.fourRuns();
        for (int index : new int[] {-1, 0, 1, 3, 4, 8, LOW, HIGH}) {
            CHECK.refuses("cachedAt(" + index + "), empty", x, Check.BOUNDS, () -> x.cachedAt(index));
        }
        open(x, 3, 3);
        open(x, 0, 0);
        CHECK.is("cachedAt(0)", x.cachedAt(0), 303);
        CHECK.is("cachedAt(1)", x.cachedAt(1), 0);
        // The capacity has more, the cache has not.
        for (int index : new int[] {-1, 2, 3, 4, LOW, HIGH}) {
            CHECK.refuses("cachedAt(" + index + ") of 2", x, Check.BOUNDS, () -> x.cachedAt(index));
        }
        x.setCapacity(8);
        for (int i = 0; i < 8; i++) {
            open(x, i / 4, i % 4);
        }
        CHECK.is("cachedAt(7)", x.cachedAt(7), 103);
        CHECK.refuses("cachedAt(8) of 8", x, Check.BOUNDS, () -> x.cachedAt(8));
        x.setCapacity(7);
        CHECK.refuses("cachedAt(7) of 7", x, Check.BOUNDS, () -> x.cachedAt(7));
    }

    /** cachedAt: "100 * list + index of the partition in the list", with an index above 9. */
    private static void cachedAtTwoDigits() {
        MonotonePostings x = new MonotonePostings();
        for (int k = 0; k < 12; k++) {
            x.appendRange(1, 42 * k, 1, 5);
            x.appendRange(3, 42 * k, 1, 5);
        }
        CHECK.is("partitions(3)", x.partitions(3), 12);
        x.nextAtLeast(3, 463);
        x.nextAtLeast(1, 463);
        x.nextAtLeast(3, 1);
        x.nextAtLeast(1, 1);
        CHECK.cache(x, "of the last partitions", 311, 111, 300, 100);
        x.append(1, 500);
        CHECK.cache(x, "after a change of list 1", 311, 300);
    }
}
