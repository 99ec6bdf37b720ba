import java.util.ArrayDeque;
import java.util.ArrayList;
import java.util.Collections;
import java.util.Comparator;
import java.util.HashMap;
import java.util.List;
import java.util.Map;
import java.util.TreeSet;

/**
 * A second reading of the document, as plain as can be and without regard to speed: codes are
 * texts of 0 and 1, states are whole copies, and every answer is worked out anew from the words.
 */
final class Model {
    /** A partition as the document describes it, with the bits of its own code. */
    static final class Part {
        final List<Integer> documents;
        final int first;
        final int last;
        final int kind;
        final int w;
        final String bits;

        Part(List<Integer> documents) {
            this.documents = documents;
            first = documents.get(0);
            last = documents.get(documents.size() - 1);
            int n = documents.size();
            int u = last - first + 1;
            int greatest = 0;
            while (n * (1L << greatest + 1) <= u) {
                greatest++;
            }
            List<String> kinds = new ArrayList<>();
            kinds.add(n == u ? "" : null);
            kinds.add(bitmap(u));
            kinds.add(eliasFano(n, u, greatest));
            int best = -1;
            for (int k = 0; k < 3; k++) {
                String bits = kinds.get(k);
                if (bits != null && (best < 0 || bits.length() < kinds.get(best).length())) {
                    best = k;
                }
            }
            kind = best;
            w = best == 2 ? greatest : 0;
            String header = low(best, 2) + low(n - 1, 6) + low(first, 9) + low(u - 1, 9);
            bits = header + kinds.get(best);
        }

        private String bitmap(int u) {
            StringBuilder text = new StringBuilder();
            for (int v = 0; v < u; v++) {
                text.append(documents.contains(first + v) ? '1' : '0');
            }
            return text.toString();
        }

        private String eliasFano(int n, int u, int width) {
            StringBuilder high = new StringBuilder("0".repeat(n + (u - 1) / (1 << width) + 1));
            StringBuilder lows = new StringBuilder();
            for (int i = 0; i < n; i++) {
                int v = documents.get(i) - first;
                high.setCharAt(i + v / (1 << width), '1');
                lows.append(low(v % (1 << width), width));
            }
            return high.append(lows).toString();
        }

        private static String low(int value, int width) {
            StringBuilder text = new StringBuilder();
            for (int i = 0, rest = value; i < width; i++, rest /= 2) {
                text.append(rest % 2);
            }
            return text.toString();
        }

        int fact(int what) {
            int[] facts = {kind, documents.size(), first, last, bits.length(), w};
            return facts[what];
        }
    }

    private static final class Saved {
        final List<List<Integer>> lists = new ArrayList<>();
        List<Integer> cache = new ArrayList<>();
        int capacity = 4;
        int reads = 0;
        int hits = 0;

        Saved copy() {
            Saved copy = new Saved();
            for (List<Integer> list : lists) {
                copy.lists.add(new ArrayList<>(list));
            }
            copy.cache = new ArrayList<>(cache);
            copy.capacity = capacity;
            copy.reads = reads;
            copy.hits = hits;
            return copy;
        }
    }

    private Saved now = new Saved();
    private final ArrayDeque<Saved> saved = new ArrayDeque<>();
    // Dividing a long list takes the model a while, and most calls ask for the same ones again.
    private final Map<List<Integer>, List<Part>> known = new HashMap<>();

    Model() {
        for (int i = 0; i < 4; i++) {
            now.lists.add(new ArrayList<>());
        }
    }

    private void save() {
        saved.addLast(now.copy());
        if (saved.size() > 4) {
            saved.removeFirst();
        }
    }

    private List<Integer> list(int list) {
        if (list < 0 || list > 3) {
            throw new IndexOutOfBoundsException();
        }
        return now.lists.get(list);
    }

    private static void argument(boolean good) {
        if (!good) {
            throw new IllegalArgumentException();
        }
    }

    private static void index(int index, int count) {
        if (index < 0 || index >= count) {
            throw new IndexOutOfBoundsException();
        }
    }

    private void forget(int list) {
        now.cache.removeIf(key -> key / 100 == list);
    }

    private int write(int target, Iterable<Integer> documents) {
        List<Integer> list = now.lists.get(target);
        list.clear();
        documents.forEach(list::add);
        forget(target);
        return list.size();
    }

    int append(int list, int document) {
        List<Integer> documents = list(list);
        argument(document >= 0 && document <= 511);
        argument(documents.isEmpty() || documents.get(documents.size() - 1) < document);
        if (documents.size() == 64) {
            throw new IllegalStateException();
        }
        save();
        documents.add(document);
        forget(list);
        return documents.size();
    }

    int appendRange(int list, int first, int step, int count) {
        List<Integer> documents = list(list);
        argument(first >= 0 && first <= 511 && step >= 1 && step <= 511 && count >= 1 && count <= 64);
        argument((long) first + (long) step * (count - 1) <= 511);
        argument(documents.isEmpty() || documents.get(documents.size() - 1) < first);
        if (documents.size() + count > 64) {
            throw new IllegalStateException();
        }
        save();
        for (int i = 0; i < count; i++) {
            documents.add(first + i * step);
        }
        forget(list);
        return documents.size();
    }

    int clear(int list) {
        int had = list(list).size();
        save();
        write(list, List.of());
        return had;
    }

    int size(int list) {
        return list(list).size();
    }

    int document(int list, int index) {
        index(index, list(list).size());
        return list(list).get(index);
    }

    int rank(int list, int x) {
        List<Integer> documents = list(list);
        argument(x >= 0 && x <= 512);
        return (int) documents.stream().filter(d -> d < x).count();
    }

    /** The order of the document among possible divisions of the same documents. */
    static final Comparator<List<Part>> BETTER = (a, b) -> {
        int c = Integer.compare(length(a), length(b));
        c = c != 0 ? c : Integer.compare(a.size(), b.size());
        for (int i = 0; c == 0 && i < a.size(); i++) {
            c = Integer.compare(a.get(i).documents.size(), b.get(i).documents.size());
        }
        return c;
    };

    static int length(List<Part> parts) {
        return parts.stream().mapToInt(p -> p.bits.length()).sum();
    }

    static List<Part> divide(List<Integer> documents) {
        List<List<Part>> best = new ArrayList<>();
        best.add(List.of());
        for (int start = documents.size() - 1; start >= 0; start--) {
            List<List<Part>> all = new ArrayList<>();
            for (int end = start + 1; end <= documents.size(); end++) {
                List<Part> parts = new ArrayList<>();
                parts.add(new Part(documents.subList(start, end)));
                parts.addAll(best.get(documents.size() - end));
                all.add(parts);
            }
            best.add(Collections.min(all, BETTER));
        }
        return best.get(documents.size());
    }

    private List<Part> parts(int list) {
        List<Integer> documents = new ArrayList<>(list(list));
        if (known.size() > 100) {
            known.clear();
        }
        return known.computeIfAbsent(documents, Model::divide);
    }

    private String code(int list) {
        StringBuilder text = new StringBuilder();
        for (Part part : parts(list)) {
            text.append(part.bits);
        }
        return text.toString();
    }

    int partitions(int list) {
        return parts(list).size();
    }

    int partition(int list, int index, int what) {
        List<Part> parts = parts(list);
        index(index, parts.size());
        argument(what >= 0 && what <= 5);
        return parts.get(index).fact(what);
    }

    int codeLength(int list) {
        return code(list).length();
    }

    int codeBit(int list, int index) {
        String code = code(list);
        index(index, code.length());
        return code.charAt(index) - '0';
    }

    int fixedLength(int list, int count) {
        List<Integer> documents = list(list);
        argument(count >= 1 && count <= 64);
        int sum = 0;
        for (int i = 0; i < documents.size(); i += count) {
            int end = Math.min(i + count, documents.size());
            sum += new Part(new ArrayList<>(documents.subList(i, end))).bits.length();
        }
        return sum;
    }

    double bitsPerDocument(int list) {
        int n = list(list).size();
        return n == 0 ? 0.0 : (double) codeLength(list) / (double) n;
    }

    private int query(int list, List<Part> parts, int x) {
        for (int k = 0; k < parts.size(); k++) {
            Part part = parts.get(k);
            now.reads++;
            if (part.last >= x) {
                if (x <= part.first) {
                    return part.first;
                }
                int answer = part.documents.stream().filter(d -> d >= x).findFirst().get();
                open(100 * list + k, insideReads(part, x, answer));
                return answer;
            }
        }
        return -1;
    }

    private static int insideReads(Part part, int x, int answer) {
        TreeSet<Integer> read = new TreeSet<>();
        if (part.kind == 1) {
            for (int bit = x - part.first; bit <= answer - part.first; bit++) {
                read.add(bit / 8);
            }
            return read.size();
        }
        if (part.kind == 2) {
            int high = (x - part.first) / (1 << part.w);
            for (int document : part.documents) {
                if ((document - part.first) / (1 << part.w) >= high && document <= answer) {
                    read.add(document);
                }
            }
            return 1 + read.size();
        }
        return 0;
    }

    private void open(int key, int reads) {
        if (now.cache.contains(key)) {
            now.hits++;
            now.cache.remove(Integer.valueOf(key));
        } else {
            now.reads += reads;
            if (now.capacity > 0 && now.cache.size() == now.capacity) {
                now.cache.remove(0);
            }
        }
        if (now.capacity > 0) {
            now.cache.add(key);
        }
    }

    int nextAtLeast(int list, int x) {
        list(list);
        argument(x >= 0 && x <= 511);
        save();
        return query(list, parts(list), x);
    }

    private List<Integer> intersection(int lists) {
        List<Integer> order = new ArrayList<>();
        List<List<Part>> parts = new ArrayList<>();
        for (int i = 0; i < 4; i++) {
            parts.add(parts(i));
            if ((lists & 1 << i) != 0) {
                order.add(i);
            }
        }
        order.sort(Comparator.comparingInt(this::size));
        int head = order.remove(0);
        List<Integer> found = new ArrayList<>();
        int candidate = query(head, parts.get(head), 0);
        next:
        while (candidate != -1) {
            for (int other : order) {
                int y = query(other, parts.get(other), candidate);
                if (y == -1) {
                    break next;
                }
                if (y > candidate) {
                    candidate = query(head, parts.get(head), y);
                    continue next;
                }
            }
            found.add(candidate);
            if (candidate == 511) {
                break;
            }
            candidate = query(head, parts.get(head), candidate + 1);
        }
        return found;
    }

    int countIntersection(int lists) {
        argument(lists > 0 && lists < 16);
        save();
        return intersection(lists).size();
    }

    int intersect(int lists, int target) {
        argument(lists > 0 && lists < 16);
        list(target);
        save();
        return write(target, intersection(lists));
    }

    int unite(int a, int b, int target) {
        TreeSet<Integer> union = new TreeSet<>(list(a));
        union.addAll(list(b));
        list(target);
        if (union.size() > 64) {
            throw new IllegalStateException();
        }
        save();
        return write(target, union);
    }

    int subtract(int a, int b, int target) {
        TreeSet<Integer> rest = new TreeSet<>(list(a));
        rest.removeAll(list(b));
        list(target);
        save();
        return write(target, rest);
    }

    int reads() {
        return now.reads;
    }

    int hits() {
        return now.hits;
    }

    int setCapacity(int capacity) {
        argument(capacity >= 0 && capacity <= 8);
        save();
        int previous = now.capacity;
        now.capacity = capacity;
        while (now.cache.size() > capacity) {
            now.cache.remove(0);
        }
        return previous;
    }

    int cached() {
        return now.cache.size();
    }

    int cachedAt(int index) {
        index(index, now.cache.size());
        return now.cache.get(index);
    }

    int undo() {
        if (saved.isEmpty()) {
            throw new IllegalStateException();
        }
        now = saved.removeLast();
        return saved.size();
    }

    long digest() {
        List<Integer> values = new ArrayList<>();
        for (int i = 0; i < 4; i++) {
            values.add(size(i));
            values.addAll(list(i));
            List<Part> parts = parts(i);
            values.add(parts.size());
            for (Part part : parts) {
                for (int what = 0; what < 6; what++) {
                    values.add(part.fact(what));
                }
            }
            code(i).chars().forEach(c -> values.add(c - '0'));
        }
        values.add(now.capacity);
        values.add(now.cache.size());
        values.addAll(now.cache);
        values.add(now.reads);
        values.add(now.hits);
        values.add(saved.size());
        long h = 2791;
        for (int v : values) {
            h = 31 * h + v;
        }
        return h;
    }
}
