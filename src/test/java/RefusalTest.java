import java.util.ArrayList;
import java.util.List;
import java.util.function.Supplier;

/** "Exceptions": a refused call changes nothing, and the exception that is listed first is thrown. */
public final class RefusalTest {
    private static final Check CHECK = new Check("RefusalTest");
    private static final String BOUNDS = Check.BOUNDS;
    private static final String ARGUMENT = Check.ARGUMENT;
    private static final String STATE = Check.STATE;

    private interface Deed {
        long answer(MonotonePostings x);
    }

    /** A call that is refused, with the exception that is due. */
    private record Refused(String name, String exception, Deed deed) {
    }

    // These are refused in every state.
    private static final Refused[] ALWAYS = {
        new Refused("append(-1, 500)", BOUNDS, x -> x.append(-1, 500)),
        new Refused("append(4, 500)", BOUNDS, x -> x.append(4, 500)),
        new Refused("append(0, -1)", ARGUMENT, x -> x.append(0, -1)),
        new Refused("append(0, 512)", ARGUMENT, x -> x.append(0, 512)),
        new Refused("appendRange(4, 500, 1, 1)", BOUNDS, x -> x.appendRange(4, 500, 1, 1)),
        new Refused("appendRange(0, 512, 1, 1)", ARGUMENT, x -> x.appendRange(0, 512, 1, 1)),
        new Refused("appendRange(0, 500, 0, 1)", ARGUMENT, x -> x.appendRange(0, 500, 0, 1)),
        new Refused("appendRange(0, 500, 1, 0)", ARGUMENT, x -> x.appendRange(0, 500, 1, 0)),
        new Refused("appendRange(0, 500, 1, 65)", ARGUMENT, x -> x.appendRange(0, 500, 1, 65)),
        new Refused("appendRange(0, 500, 1, 13)", ARGUMENT, x -> x.appendRange(0, 500, 1, 13)),
        new Refused("clear(-1)", BOUNDS, x -> x.clear(-1)),
        new Refused("clear(4)", BOUNDS, x -> x.clear(4)),
        new Refused("size(4)", BOUNDS, x -> x.size(4)),
        new Refused("document(4, 0)", BOUNDS, x -> x.document(4, 0)),
        new Refused("document(0, -1)", BOUNDS, x -> x.document(0, -1)),
        new Refused("document(0, 64)", BOUNDS, x -> x.document(0, 64)),
        new Refused("rank(4, 0)", BOUNDS, x -> x.rank(4, 0)),
        new Refused("rank(0, -1)", ARGUMENT, x -> x.rank(0, -1)),
        new Refused("rank(0, 513)", ARGUMENT, x -> x.rank(0, 513)),
        new Refused("partitions(-1)", BOUNDS, x -> x.partitions(-1)),
        new Refused("partition(4, 0, 0)", BOUNDS, x -> x.partition(4, 0, 0)),
        new Refused("partition(0, 64, 0)", BOUNDS, x -> x.partition(0, 64, 0)),
        new Refused("codeLength(4)", BOUNDS, x -> x.codeLength(4)),
        new Refused("codeBit(4, 0)", BOUNDS, x -> x.codeBit(4, 0)),
        new Refused("codeBit(0, -1)", BOUNDS, x -> x.codeBit(0, -1)),
        new Refused("codeBit(0, 538)", BOUNDS, x -> x.codeBit(0, 538)),
        new Refused("fixedLength(4, 1)", BOUNDS, x -> x.fixedLength(4, 1)),
        new Refused("fixedLength(0, 0)", ARGUMENT, x -> x.fixedLength(0, 0)),
        new Refused("fixedLength(0, 65)", ARGUMENT, x -> x.fixedLength(0, 65)),
        new Refused("bitsPerDocument(4)", BOUNDS, x -> (long) x.bitsPerDocument(4)),
        new Refused("nextAtLeast(4, 0)", BOUNDS, x -> x.nextAtLeast(4, 0)),
        new Refused("nextAtLeast(0, -1)", ARGUMENT, x -> x.nextAtLeast(0, -1)),
        new Refused("nextAtLeast(0, 512)", ARGUMENT, x -> x.nextAtLeast(0, 512)),
        new Refused("countIntersection(0)", ARGUMENT, x -> x.countIntersection(0)),
        new Refused("countIntersection(16)", ARGUMENT, x -> x.countIntersection(16)),
        new Refused("intersect(0, 0)", ARGUMENT, x -> x.intersect(0, 0)),
        new Refused("intersect(17, 0)", ARGUMENT, x -> x.intersect(17, 0)),
        new Refused("intersect(15, 4)", BOUNDS, x -> x.intersect(15, 4)),
        new Refused("unite(4, 0, 0)", BOUNDS, x -> x.unite(4, 0, 0)),
        new Refused("unite(0, -1, 0)", BOUNDS, x -> x.unite(0, -1, 0)),
        new Refused("unite(3, 3, 4)", BOUNDS, x -> x.unite(3, 3, 4)),
        new Refused("subtract(-1, 0, 0)", BOUNDS, x -> x.subtract(-1, 0, 0)),
        new Refused("subtract(0, 4, 0)", BOUNDS, x -> x.subtract(0, 4, 0)),
        new Refused("subtract(0, 0, -1)", BOUNDS, x -> x.subtract(0, 0, -1)),
        new Refused("setCapacity(-1)", ARGUMENT, x -> x.setCapacity(-1)),
        new Refused("setCapacity(9)", ARGUMENT, x -> x.setCapacity(9)),
        new Refused("cachedAt(-1)", BOUNDS, x -> x.cachedAt(-1)),
        new Refused("cachedAt(8)", BOUNDS, x -> x.cachedAt(8)),
    };

    // These are refused because of what the lists of Scenes.full() hold.
    private static final Refused[] WHEN_FULL = {
        new Refused("append(0, 127)", STATE, x -> x.append(0, 127)),
        new Refused("append(2, 62)", ARGUMENT, x -> x.append(2, 62)),
        new Refused("appendRange(0, 127, 1, 1)", STATE, x -> x.appendRange(0, 127, 1, 1)),
        new Refused("appendRange(2, 63, 1, 2)", STATE, x -> x.appendRange(2, 63, 1, 2)),
        new Refused("appendRange(2, 62, 1, 1)", ARGUMENT, x -> x.appendRange(2, 62, 1, 1)),
        new Refused("document(3, 0)", BOUNDS, x -> x.document(3, 0)),
        new Refused("document(2, 63)", BOUNDS, x -> x.document(2, 63)),
        new Refused("partition(3, 0, 0)", BOUNDS, x -> x.partition(3, 0, 0)),
        new Refused("partition(1, 1, 0)", BOUNDS, x -> x.partition(1, 1, 0)),
        new Refused("partition(1, 0, 6)", ARGUMENT, x -> x.partition(1, 0, 6)),
        new Refused("codeBit(1, 26)", BOUNDS, x -> x.codeBit(1, 26)),
        new Refused("unite(0, 1, 3)", STATE, x -> x.unite(0, 1, 3)),
        new Refused("unite(0, 1, 0)", STATE, x -> x.unite(0, 1, 0)),
        new Refused("unite(1, 2, 1)", STATE, x -> x.unite(1, 2, 1)),
    };

    // In each of these a later exception applies, too, or an argument behind the wrong one is wrong.
    private static final Refused[] FIRST_OF_SEVERAL = {
        new Refused("append(4, 512)", BOUNDS, x -> x.append(4, 512)),
        new Refused("append(-1, -1)", BOUNDS, x -> x.append(-1, -1)),
        new Refused("append(0, 512), full", ARGUMENT, x -> x.append(0, 512)),
        new Refused("append(0, -1), full", ARGUMENT, x -> x.append(0, -1)),
        new Refused("append(0, 126), full", ARGUMENT, x -> x.append(0, 126)),
        new Refused("append(1, 511), full", ARGUMENT, x -> x.append(1, 511)),
        new Refused("appendRange(4, -1, 0, 0)", BOUNDS, x -> x.appendRange(4, -1, 0, 0)),
        new Refused("appendRange(-1, 0, 1, 65)", BOUNDS, x -> x.appendRange(-1, 0, 1, 65)),
        new Refused("appendRange(0, -1, 1, 1), full", ARGUMENT, x -> x.appendRange(0, -1, 1, 1)),
        new Refused("appendRange(0, 512, 1, 1), full", ARGUMENT, x -> x.appendRange(0, 512, 1, 1)),
        new Refused("appendRange(0, 127, 0, 1), full", ARGUMENT, x -> x.appendRange(0, 127, 0, 1)),
        new Refused("appendRange(0, 127, 512, 1), full", ARGUMENT, x -> x.appendRange(0, 127, 512, 1)),
        new Refused("appendRange(0, 127, 1, 0), full", ARGUMENT, x -> x.appendRange(0, 127, 1, 0)),
        new Refused("appendRange(0, 127, 1, 65), full", ARGUMENT, x -> x.appendRange(0, 127, 1, 65)),
        new Refused("appendRange(3, 0, 1, 65), empty", ARGUMENT, x -> x.appendRange(3, 0, 1, 65)),
        new Refused("appendRange(0, 127, 385, 2), full", ARGUMENT, x -> x.appendRange(0, 127, 385, 2)),
        new Refused("appendRange(0, 126, 1, 1), full", ARGUMENT, x -> x.appendRange(0, 126, 1, 1)),
        new Refused("appendRange(2, 62, 1, 2), 65", ARGUMENT, x -> x.appendRange(2, 62, 1, 2)),
        new Refused("document(4, -1)", BOUNDS, x -> x.document(4, -1)),
        new Refused("rank(4, 513)", BOUNDS, x -> x.rank(4, 513)),
        new Refused("rank(-1, -1)", BOUNDS, x -> x.rank(-1, -1)),
        new Refused("partition(4, 0, 6)", BOUNDS, x -> x.partition(4, 0, 6)),
        new Refused("partition(0, -1, -1)", BOUNDS, x -> x.partition(0, -1, -1)),
        new Refused("partition(1, 1, 6)", BOUNDS, x -> x.partition(1, 1, 6)),
        new Refused("partition(3, 0, 6), empty", BOUNDS, x -> x.partition(3, 0, 6)),
        new Refused("codeBit(-1, -1)", BOUNDS, x -> x.codeBit(-1, -1)),
        new Refused("fixedLength(4, 0)", BOUNDS, x -> x.fixedLength(4, 0)),
        new Refused("fixedLength(-1, 65)", BOUNDS, x -> x.fixedLength(-1, 65)),
        new Refused("nextAtLeast(4, 512)", BOUNDS, x -> x.nextAtLeast(4, 512)),
        new Refused("nextAtLeast(-1, -1)", BOUNDS, x -> x.nextAtLeast(-1, -1)),
        new Refused("intersect(0, 4)", ARGUMENT, x -> x.intersect(0, 4)),
        new Refused("intersect(16, -1)", ARGUMENT, x -> x.intersect(16, -1)),
        new Refused("unite(0, 1, 4), 128", BOUNDS, x -> x.unite(0, 1, 4)),
        new Refused("unite(0, 1, -1), 128", BOUNDS, x -> x.unite(0, 1, -1)),
        new Refused("unite(4, 4, 4)", BOUNDS, x -> x.unite(4, 4, 4)),
    };

    public static void main(String[] args) {
        changesNothing("a new object", MonotonePostings::new, ALWAYS);
        changesNothing("a full cache", RefusalTest::fullCache, ALWAYS);
        changesNothing("the capacity 0", RefusalTest::emptyCache, ALWAYS);
        changesNothing("full lists", Scenes::full, ALWAYS);
        changesNothing("full lists", Scenes::full, WHEN_FULL);
        changesNothing("four saved states", RefusalTest::fullWithFourSaved, ALWAYS);
        changesNothing("four saved states", RefusalTest::fullWithFourSaved, WHEN_FULL);
        changesNothing("no saved state", () -> Scenes.withoutSaved(Scenes.full()), ALWAYS);
        changesNothing("no saved state", () -> Scenes.withoutSaved(Scenes.full()), WHEN_FULL);
        Refused[] undo = {new Refused("undo()", STATE, MonotonePostings::undo)};
        changesNothing("a new object", MonotonePostings::new, undo);
        changesNothing("no saved state", () -> Scenes.withoutSaved(Scenes.full()), undo);
        changesNothing("several exceptions", Scenes::full, FIRST_OF_SEVERAL);
        CHECK.end();
    }

    private static MonotonePostings fullCache() {
        MonotonePostings x = Scenes.fourRuns();
        x.setCapacity(8);
        for (int i = 0; i < 9; i++) {
            x.nextAtLeast(i % 4, 100 * (i / 4) + 1);
        }
        x.nextAtLeast(3, 1);
        return x;
    }

    private static MonotonePostings emptyCache() {
        MonotonePostings x = fullCache();
        x.setCapacity(0);
        return x;
    }

    private static MonotonePostings fullWithFourSaved() {
        MonotonePostings x = Scenes.full();
        x.nextAtLeast(0, 5);
        x.nextAtLeast(1, 500);
        x.append(3, 9);
        x.clear(3);
        return x;
    }

    /** "A call that throws an exception changes nothing.": not the saved states either. */
    private static void changesNothing(String when, Supplier<MonotonePostings> scene, Refused[] calls) {
        List<String> due = image(scene.get());
        for (Refused refused : calls) {
            String name = refused.name + " with " + when;
            MonotonePostings x = scene.get();
            CHECK.same(name, Check.outcome(() -> refused.deed.answer(x)), refused.exception);
            CHECK.same(name + ", all after it", image(x), due);
        }
    }

    /** All that an object shows, also when its states are taken back; it is used up by that. */
    private static List<String> image(MonotonePostings x) {
        List<String> image = new ArrayList<>();
        for (int i = 0; i < 6; i++) {
            image.add("digest " + x.digest());
            image.add("reads " + x.reads() + ", hits " + x.hits() + ", cached " + x.cached());
            image.add("undo " + Check.outcome(x::undo));
        }
        image.add("capacity " + x.setCapacity(4));
        return image;
    }
}
