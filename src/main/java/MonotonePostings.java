/**
 * An index of four posting lists in partitioned monotone codes. Every row is made with the object
 * and used again by all its calls, so that a call makes no object but the exception it throws.
 */
public final class MonotonePostings {
    /** There is no such thing. */
    public static final int NONE = -1;

    private static final int LISTS = 4;
    private static final int LIST_LIMIT = 64;
    private static final int DOCUMENT_LIMIT = 512;
    private static final int CAPACITY_LIMIT = 8;
    private static final int FIRST_CAPACITY = 4;
    private static final int SAVED_LIMIT = 4;
    private static final int LIST_KEY = 100;

    // What is asked of a partition, by the numbers that partition() has for it.
    private static final int KIND = 0;
    private static final int LENGTH = 1;
    private static final int FIRST = 2;
    private static final int LAST = 3;
    private static final int SIZE = 4;
    private static final int LOW_BITS = 5;
    private static final int FACTS = 6;

    private static final int RUN = 0;
    private static final int BITMAP = 1;
    private static final int ELIAS_FANO = 2;

    private static final int HEADER_BITS = 26;
    // The whole list as one bitmap is among the possibilities, so no best code is longer than that.
    private static final int CODE_LIMIT = HEADER_BITS + DOCUMENT_LIMIT;

    private final State now = new State();
    private final History history = new History();
    private final Partitioner partitioner = new Partitioner();
    private final CodeRow code = new CodeRow();
    private final int[] order = new int[LISTS];
    // Twice a list's limit: a union is merged before it is known to be too long.
    private final int[] result = new int[2 * LIST_LIMIT];

    public MonotonePostings() {
    }

    public int append(int list, int document)
            throws IndexOutOfBoundsException, IllegalArgumentException, IllegalStateException {
        return appendRange(list, document, 1, 1);
    }

    public int appendRange(int list, int first, int step, int count)
            throws IndexOutOfBoundsException, IllegalArgumentException, IllegalStateException {
        Postings postings = listAt(list);
        requireRange(first, step, count);
        if (first <= postings.lastDocument()) {
            throw new IllegalArgumentException("not greater than the last document");
        }
        if (postings.count + count > LIST_LIMIT) {
            throw new IllegalStateException("the list is full");
        }
        history.save(now);
        for (int i = 0; i < count; i++) {
            postings.push(first + i * step);
        }
        recode(list);
        return postings.count;
    }

    public int clear(int list) throws IndexOutOfBoundsException {
        int had = listAt(list).count;
        history.save(now);
        writeResult(list, 0);
        return had;
    }

    public int size(int list) throws IndexOutOfBoundsException {
        return listAt(list).count;
    }

    public int document(int list, int index) throws IndexOutOfBoundsException {
        Postings postings = listAt(list);
        requireIndex(index, postings.count);
        return postings.documentAt(index);
    }

    public int rank(int list, int x) throws IndexOutOfBoundsException, IllegalArgumentException {
        Postings postings = listAt(list);
        requireBetween(x, 0, DOCUMENT_LIMIT);
        return postings.countBelow(x);
    }

    public int partitions(int list) throws IndexOutOfBoundsException {
        return listAt(list).parts;
    }

    public int partition(int list, int index, int what)
            throws IndexOutOfBoundsException, IllegalArgumentException {
        Postings postings = listAt(list);
        requireIndex(index, postings.parts);
        requireBetween(what, 0, FACTS - 1);
        return postings.factOf(index, what);
    }

    public int codeLength(int list) throws IndexOutOfBoundsException {
        return listAt(list).codeSize();
    }

    public int codeBit(int list, int index) throws IndexOutOfBoundsException {
        Postings postings = listAt(list);
        requireIndex(index, postings.codeSize());
        code.write(postings);
        return code.bitAt(index);
    }

    public int fixedLength(int list, int count)
            throws IndexOutOfBoundsException, IllegalArgumentException {
        Postings postings = listAt(list);
        requireBetween(count, 1, LIST_LIMIT);
        return postings.sizeInParts(count);
    }

    public double bitsPerDocument(int list) throws IndexOutOfBoundsException {
        Postings postings = listAt(list);
        if (postings.count == 0) {
            return 0.0;
        }
        return (double) postings.codeSize() / (double) postings.count;
    }

    public int nextAtLeast(int list, int x)
            throws IndexOutOfBoundsException, IllegalArgumentException {
        requireList(list);
        requireBetween(x, 0, DOCUMENT_LIMIT - 1);
        history.save(now);
        return now.query(list, x);
    }

    public int countIntersection(int lists) throws IllegalArgumentException {
        requireSet(lists);
        history.save(now);
        return findIntersection(lists);
    }

    public int intersect(int lists, int target)
            throws IllegalArgumentException, IndexOutOfBoundsException {
        requireSet(lists);
        requireList(target);
        history.save(now);
        return writeResult(target, findIntersection(lists));
    }

    public int unite(int a, int b, int target)
            throws IndexOutOfBoundsException, IllegalStateException {
        requireList(target);
        int length = mergeIntoResult(listAt(a), listAt(b));
        if (length > LIST_LIMIT) {
            throw new IllegalStateException("the union is too long");
        }
        history.save(now);
        return writeResult(target, length);
    }

    public int subtract(int a, int b, int target) throws IndexOutOfBoundsException {
        requireList(target);
        int length = differenceIntoResult(listAt(a), listAt(b));
        history.save(now);
        return writeResult(target, length);
    }

    public int reads() {
        return now.reads;
    }

    public int hits() {
        return now.hits;
    }

    public int setCapacity(int capacity) throws IllegalArgumentException {
        requireBetween(capacity, 0, CAPACITY_LIMIT);
        history.save(now);
        int previous = now.cache.capacity;
        now.cache.resize(capacity);
        return previous;
    }

    public int cached() {
        return now.cache.count;
    }

    public int cachedAt(int index) throws IndexOutOfBoundsException {
        requireIndex(index, now.cache.count);
        return now.cache.keys[index];
    }

    public int undo() throws IllegalStateException {
        if (history.count == 0) {
            throw new IllegalStateException("no saved state");
        }
        history.restore(now);
        return history.count;
    }

    public long digest() {
        long h = 2791;
        for (int list = 0; list < LISTS; list++) {
            h = mixList(h, now.lists[list]);
        }
        h = mix(h, now.cache.capacity);
        h = mix(h, now.cache.count);
        h = mixRow(h, now.cache.keys, now.cache.count);
        h = mix(h, now.reads);
        h = mix(h, now.hits);
        return mix(h, history.count);
    }

    private static void requireList(int list) {
        requireIndex(list, LISTS);
    }

    private static void requireIndex(int index, int count) {
        if (index < 0 || index >= count) {
            throw new IndexOutOfBoundsException("no such list or index");
        }
    }

    private static void requireBetween(int value, int least, int most) {
        if (value < least || value > most) {
            throw new IllegalArgumentException("out of range");
        }
    }

    private static void requireRange(int first, int step, int count) {
        requireBetween(first, 0, DOCUMENT_LIMIT - 1);
        requireBetween(step, 1, DOCUMENT_LIMIT - 1);
        requireBetween(count, 1, LIST_LIMIT);
        requireBetween(first + step * (count - 1), 0, DOCUMENT_LIMIT - 1);
    }

    private static void requireSet(int lists) {
        requireBetween(lists, 1, (1 << LISTS) - 1);
    }

    private Postings listAt(int list) {
        requireList(list);
        return now.lists[list];
    }

    private void recode(int list) {
        partitioner.divide(now.lists[list]);
        now.cache.dropList(list);
    }

    private int writeResult(int target, int length) {
        now.lists[target].replace(result, length);
        recode(target);
        return length;
    }

    private int mergeIntoResult(Postings a, Postings b) {
        int i = 0;
        int j = 0;
        int length = 0;
        for (; length < result.length && (i < a.count || j < b.count); length++) {
            int x = i < a.count ? a.documentAt(i) : DOCUMENT_LIMIT;
            int y = j < b.count ? b.documentAt(j) : DOCUMENT_LIMIT;
            result[length] = x <= y ? x : y;
            i += x <= y ? 1 : 0;
            j += y <= x ? 1 : 0;
        }
        return length;
    }

    private int differenceIntoResult(Postings a, Postings b) {
        int length = 0;
        for (int i = 0; i < a.count; i++) {
            int document = a.documentAt(i);
            if (b.documentAt(b.countBelow(document)) != document) {
                result[length] = document;
                length++;
            }
        }
        return length;
    }

    private int findIntersection(int lists) {
        int members = orderLists(lists);
        int first = order[0];
        int found = 0;
        int candidate = now.query(first, 0);
        // Every candidate is another document of the first list, so there are no more rounds.
        for (int round = 0; round < LIST_LIMIT && candidate != NONE; round++) {
            int next = askOthers(candidate, members);
            if (next == candidate) {
                result[found] = candidate;
                found++;
                next = candidate + 1 < DOCUMENT_LIMIT ? candidate + 1 : NONE;
            }
            candidate = next == NONE ? NONE : now.query(first, next);
        }
        return found;
    }

    /** Answers the candidate if all other lists have it, else what the first one without it says. */
    private int askOthers(int candidate, int members) {
        int answer = candidate;
        for (int i = 1; i < members && answer == candidate; i++) {
            answer = now.query(order[i], candidate);
        }
        return answer;
    }

    private int orderLists(int lists) {
        int members = 0;
        for (int list = 0; list < LISTS; list++) {
            if ((lists >> list & 1) != 0) {
                int at = members;
                for (; at > 0 && now.lists[order[at - 1]].count > now.lists[list].count; at--) {
                    order[at] = order[at - 1];
                }
                order[at] = list;
                members++;
            }
        }
        return members;
    }

    private static long mix(long h, int value) {
        return 31 * h + value;
    }

    private static long mixRow(long h, int[] row, int length) {
        long mixed = h;
        for (int i = 0; i < length; i++) {
            mixed = mix(mixed, row[i]);
        }
        return mixed;
    }

    private long mixList(long h, Postings postings) {
        long mixed = mixRow(mix(h, postings.count), postings.documents, postings.count);
        mixed = mix(mixed, postings.parts);
        mixed = mixRow(mixed, postings.facts, postings.parts * FACTS);
        code.write(postings);
        return mixRow(mixed, code.bits, code.length);
    }

    /** What follows from a partition's number of documents n and its width u = last - first + 1. */
    private static final class Shape {
        // n * 2^w is at most u, and u is at most 2^9.
        static final int LOW_LIMIT = 9;

        static int lowBits(int n, int u) {
            int w = 0;
            while (w < LOW_LIMIT && n << (w + 1) <= u) {
                w++;
            }
            return w;
        }

        static int highLength(int n, int u, int w) {
            return n + (u - 1 >> w) + 1;
        }

        static int bestSize(int n, int u) {
            if (n == u) {
                return HEADER_BITS;
            }
            int w = lowBits(n, u);
            int eliasFano = highLength(n, u, w) + n * w;
            return HEADER_BITS + (eliasFano < u ? eliasFano : u);
        }

        /** The kind that has this size, the lowest of equal ones. */
        static int bestKind(int n, int u, int size) {
            if (n == u) {
                return RUN;
            }
            return size < HEADER_BITS + u ? ELIAS_FANO : BITMAP;
        }
    }

    /** A list's documents, and for each of its partitions, in order, the six facts about it. */
    private static final class Postings {
        final int[] documents = new int[LIST_LIMIT];
        int count = 0;
        final int[] facts = new int[LIST_LIMIT * FACTS];
        int parts = 0;

        void copyFrom(Postings other) {
            count = other.count;
            System.arraycopy(other.documents, 0, documents, 0, count);
            parts = other.parts;
            System.arraycopy(other.facts, 0, facts, 0, parts * FACTS);
        }

        void replace(int[] row, int length) {
            count = length;
            System.arraycopy(row, 0, documents, 0, length);
        }

        void push(int document) {
            if (count < LIST_LIMIT) {
                documents[count] = document;
                count++;
            }
        }

        int documentAt(int index) {
            return index >= 0 && index < count ? documents[index] : NONE;
        }

        int lastDocument() {
            return documentAt(count - 1);
        }

        int countBelow(int x) {
            int below = 0;
            while (below < count && documents[below] < x) {
                below++;
            }
            return below;
        }

        int widthBetween(int start, int end) {
            return documentAt(end - 1) - documentAt(start) + 1;
        }

        int sizeInParts(int length) {
            int sum = 0;
            for (int k = 0; k < LIST_LIMIT && k * length < count; k++) {
                int start = k * length;
                int end = start + length < count ? start + length : count;
                sum += Shape.bestSize(end - start, widthBetween(start, end));
            }
            return sum;
        }

        int codeSize() {
            int sum = 0;
            for (int k = 0; k < parts; k++) {
                sum += factOf(k, SIZE);
            }
            return sum;
        }

        int factOf(int k, int what) {
            return facts[k * FACTS + what];
        }

        int widthOf(int k) {
            return factOf(k, LAST) - factOf(k, FIRST) + 1;
        }

        void addPart(int start, int end) {
            int n = end - start;
            int u = widthBetween(start, end);
            int size = Shape.bestSize(n, u);
            int kind = Shape.bestKind(n, u, size);
            int at = parts * FACTS;
            facts[at + KIND] = kind;
            facts[at + LENGTH] = n;
            facts[at + FIRST] = documentAt(start);
            facts[at + LAST] = documentAt(end - 1);
            facts[at + SIZE] = size;
            facts[at + LOW_BITS] = kind == ELIAS_FANO ? Shape.lowBits(n, u) : 0;
            parts++;
        }

        /** The reads in partition k for x, answered by the document with the index answer. */
        int readsInside(int k, int x, int answer) {
            int first = factOf(k, FIRST);
            int kind = factOf(k, KIND);
            if (kind == BITMAP) {
                return (documentAt(answer) - first) / 8 - (x - first) / 8 + 1;
            }
            if (kind == ELIAS_FANO) {
                int w = factOf(k, LOW_BITS);
                int leastOfHighPart = first + (x - first >> w << w);
                return 1 + answer - countBelow(leastOfHighPart) + 1;
            }
            return 0;
        }
    }

    /** Finds the best partitions of a list, from its end to its beginning. */
    private static final class Partitioner {
        // A partition weighs its size in this unit, and 1 more for itself: of equal sums of sizes
        // the one with the fewest partitions, at most 64, is then the lighter one.
        static final int SIZE_UNIT = 128;

        // For the documents from an index on: their least weight, and their first partition's end.
        final int[] weights = new int[LIST_LIMIT + 1];
        final int[] ends = new int[LIST_LIMIT + 1];

        void divide(Postings postings) {
            int count = postings.count;
            weights[count] = 0;
            for (int start = count - 1; start >= 0; start--) {
                chooseEnd(postings, start);
            }
            postings.parts = 0;
            int start = 0;
            for (int k = 0; k < count && start < count; k++) {
                postings.addPart(start, ends[start]);
                start = ends[start];
            }
        }

        private void chooseEnd(Postings postings, int start) {
            int least = 0;
            for (int end = start + 1; end <= postings.count; end++) {
                int size = Shape.bestSize(end - start, postings.widthBetween(start, end));
                int weight = size * SIZE_UNIT + 1 + weights[end];
                // Only a lighter one replaces it, so that the shortest first partition stays.
                if (end == start + 1 || weight < least) {
                    least = weight;
                    ends[start] = end;
                }
            }
            weights[start] = least;
        }
    }

    /** The bits of a list's code, each in an element of its own. */
    private static final class CodeRow {
        final int[] bits = new int[CODE_LIMIT];
        int length = 0;

        int bitAt(int index) {
            return index >= 0 && index < length ? bits[index] : 0;
        }

        void write(Postings postings) {
            length = 0;
            int start = 0;
            for (int k = 0; k < postings.parts; k++) {
                int kind = postings.factOf(k, KIND);
                putHeader(postings, k);
                if (kind == BITMAP) {
                    putBitmap(postings, k, start);
                } else if (kind == ELIAS_FANO) {
                    putHighParts(postings, k, start);
                    putLowParts(postings, k, start);
                }
                start += postings.factOf(k, LENGTH);
            }
        }

        private void put(int value, int width) {
            for (int i = 0; i < width && length < CODE_LIMIT; i++) {
                bits[length] = value >> i & 1;
                length++;
            }
        }

        private void setBit(int index) {
            if (index >= 0 && index < length) {
                bits[index] = 1;
            }
        }

        private void putHeader(Postings postings, int k) {
            put(postings.factOf(k, KIND), 2);
            put(postings.factOf(k, LENGTH) - 1, 6);
            put(postings.factOf(k, FIRST), 9);
            put(postings.widthOf(k) - 1, 9);
        }

        private void putBitmap(Postings postings, int k, int start) {
            int base = length;
            int first = postings.factOf(k, FIRST);
            int n = postings.factOf(k, LENGTH);
            put(0, postings.widthOf(k));
            for (int i = 0; i < n; i++) {
                setBit(base + postings.documentAt(start + i) - first);
            }
        }

        private void putHighParts(Postings postings, int k, int start) {
            int base = length;
            int first = postings.factOf(k, FIRST);
            int n = postings.factOf(k, LENGTH);
            int w = postings.factOf(k, LOW_BITS);
            put(0, Shape.highLength(n, postings.widthOf(k), w));
            for (int i = 0; i < n; i++) {
                setBit(base + i + (postings.documentAt(start + i) - first >> w));
            }
        }

        private void putLowParts(Postings postings, int k, int start) {
            int first = postings.factOf(k, FIRST);
            int n = postings.factOf(k, LENGTH);
            int w = postings.factOf(k, LOW_BITS);
            for (int i = 0; i < n; i++) {
                put(postings.documentAt(start + i) - first, w);
            }
        }
    }

    /** The cached partitions, each as 100 * list + index, the least recent one first. */
    private static final class Cache {
        final int[] keys = new int[CAPACITY_LIMIT];
        int count = 0;
        int capacity = FIRST_CAPACITY;

        void copyFrom(Cache other) {
            count = other.count;
            capacity = other.capacity;
            System.arraycopy(other.keys, 0, keys, 0, count);
        }

        /** Makes a partition the most recent one; true if it was there already. */
        boolean use(int key) {
            boolean hit = dropBetween(key, key) > 0;
            if (capacity > 0) {
                shrinkTo(capacity - 1);
                keys[count] = key;
                count++;
            }
            return hit;
        }

        void dropList(int list) {
            dropBetween(LIST_KEY * list, LIST_KEY * list + LIST_KEY - 1);
        }

        void resize(int newCapacity) {
            shrinkTo(newCapacity);
            capacity = newCapacity;
        }

        private int dropBetween(int least, int most) {
            int before = count;
            int kept = 0;
            for (int i = 0; i < before; i++) {
                if (keys[i] < least || keys[i] > most) {
                    keys[kept] = keys[i];
                    kept++;
                }
            }
            count = kept;
            return before - kept;
        }

        private void shrinkTo(int most) {
            int surplus = count - most;
            if (surplus > 0) {
                System.arraycopy(keys, surplus, keys, 0, most);
                count = most;
            }
        }
    }

    /** All that undo brings back. */
    private static final class State {
        final Postings[] lists = new Postings[LISTS];
        final Cache cache = new Cache();
        int reads = 0;
        int hits = 0;

        State() {
            for (int list = 0; list < LISTS; list++) {
                lists[list] = new Postings();
            }
        }

        void copyFrom(State other) {
            for (int list = 0; list < LISTS; list++) {
                lists[list].copyFrom(other.lists[list]);
            }
            cache.copyFrom(other.cache);
            reads = other.reads;
            hits = other.hits;
        }

        int query(int list, int x) {
            Postings postings = lists[list];
            for (int k = 0; k < postings.parts; k++) {
                reads++;
                if (postings.factOf(k, LAST) >= x) {
                    int first = postings.factOf(k, FIRST);
                    return x <= first ? first : queryInside(list, k, x);
                }
            }
            return NONE;
        }

        private int queryInside(int list, int k, int x) {
            Postings postings = lists[list];
            int answer = postings.countBelow(x);
            if (cache.use(LIST_KEY * list + k)) {
                hits++;
            } else {
                reads += postings.readsInside(k, x, answer);
            }
            return postings.documentAt(answer);
        }
    }

    /** The saved states, in a ring, so that the oldest one is written over when all are in use. */
    private static final class History {
        final State[] states = new State[SAVED_LIMIT];
        int next = 0;
        int count = 0;

        History() {
            for (int i = 0; i < SAVED_LIMIT; i++) {
                states[i] = new State();
            }
        }

        void save(State state) {
            states[next].copyFrom(state);
            next = next + 1 < SAVED_LIMIT ? next + 1 : 0;
            count = count < SAVED_LIMIT ? count + 1 : SAVED_LIMIT;
        }

        void restore(State state) {
            next = next > 0 ? next - 1 : SAVED_LIMIT - 1;
            state.copyFrom(states[next]);
            count--;
        }
    }
}
