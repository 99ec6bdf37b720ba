import java.util.ArrayList;
import java.util.List;
import java.util.Random;

/** Partitions of short lists against all possible divisions, and the ties that are told apart. */
public final class PartitionsTest {
    private static final Check CHECK = new Check("PartitionsTest");
    private static int fewerPartitions = 0;
    private static int shorterFirst = 0;

    public static void main(String[] args) {
        Random random = new Random(25);
        for (int i = 0; i < 1200; i++) {
            compareWithAll(shortList(random));
        }
        for (int i = 0; i < 400; i++) {
            compareWithAll(runAndTwo(random));
        }
        // Here [2 .. 8], [16, 89] and [2 .. 8, 16], [89] both have 67 bits.
        compareWithAll(List.of(2, 3, 4, 5, 6, 7, 8, 16, 89));
        compareWithAll(List.of(12, 13, 14, 40, 51, 57, 58, 59, 60, 61, 62));
        CHECK.same("ties of the number of partitions came up", fewerPartitions > 0, true);
        CHECK.same("ties of the first partition came up", shorterFirst > 0, true);
        everyShape();
        CHECK.end();
    }

    /** Runs with gaps of about the header's size between them, where ties are likely. */
    private static List<Integer> shortList(Random random) {
        List<Integer> documents = new ArrayList<>();
        int next = random.nextInt(40);
        int count = 1 + random.nextInt(11);
        int gap = 2 + random.nextInt(40);
        while (documents.size() < count && next < 512) {
            documents.add(next);
            next += random.nextInt(3) > 0 ? 1 : 1 + random.nextInt(gap);
        }
        return documents;
    }

    /** A run, a document near it and one far away: the middle one can go with either. */
    private static List<Integer> runAndTwo(Random random) {
        List<Integer> documents = new ArrayList<>();
        int next = random.nextInt(10);
        for (int i = 4 + random.nextInt(6); i > 0; i--) {
            documents.add(next++);
        }
        documents.add(next += random.nextInt(20));
        documents.add(next + 1 + random.nextInt(150));
        return documents;
    }

    private static void compareWithAll(List<Integer> documents) {
        List<Model.Part> best = null;
        int leastBits = Integer.MAX_VALUE;
        int ofLeastBits = 0;
        int fewest = Integer.MAX_VALUE;
        int ofFewest = 0;
        for (int cuts = 0; cuts < 1 << documents.size() - 1; cuts++) {
            List<Model.Part> parts = cut(documents, cuts);
            best = best == null || Model.BETTER.compare(parts, best) < 0 ? parts : best;
            int bits = Model.length(parts);
            if (bits < leastBits) {
                leastBits = bits;
                ofLeastBits = 0;
                fewest = Integer.MAX_VALUE;
            }
            if (bits == leastBits) {
                ofLeastBits++;
                ofFewest = parts.size() < fewest ? 1 : ofFewest + (parts.size() == fewest ? 1 : 0);
                fewest = Math.min(fewest, parts.size());
            }
        }
        fewerPartitions += ofLeastBits > ofFewest ? 1 : 0;
        shorterFirst += ofFewest > 1 ? 1 : 0;
        compare(documents, best);
    }

    private static List<Model.Part> cut(List<Integer> documents, int cuts) {
        List<Model.Part> parts = new ArrayList<>();
        int start = 0;
        for (int i = 1; i <= documents.size(); i++) {
            if (i == documents.size() || (cuts >> i - 1 & 1) != 0) {
                parts.add(new Model.Part(documents.subList(start, i)));
                start = i;
            }
        }
        return parts;
    }

    private static void compare(List<Integer> documents, List<Model.Part> parts) {
        MonotonePostings x = new MonotonePostings();
        for (int document : documents) {
            x.append(0, document);
        }
        CHECK.is("partitions of " + documents, x.partitions(0), parts.size());
        int at = 0;
        for (int k = 0; k < parts.size() && k < x.partitions(0); k++) {
            for (int what = 0; what < 6; what++) {
                String name = "fact " + what + " of partition " + k + " of " + documents;
                CHECK.is(name, x.partition(0, k, what), parts.get(k).fact(what));
            }
            String bits = parts.get(k).bits;
            for (int i = 0; i < bits.length(); i++, at++) {
                CHECK.is("bit " + at + " of " + documents, x.codeBit(0, at), bits.charAt(i) - '0');
            }
        }
        CHECK.is("codeLength of " + documents, x.codeLength(0), at);
    }

    /** Each number of documents over each width that it can have, coded as one partition. */
    private static void everyShape() {
        for (int n = 2; n <= 64; n++) {
            for (int u = n; u <= 512; u += 1 + u / 40) {
                MonotonePostings x = new MonotonePostings();
                List<Integer> documents = new ArrayList<>();
                for (int i = 0; i < n; i++) {
                    documents.add(i < n - 1 ? i : u - 1);
                    x.append(0, documents.get(i));
                }
                int due = new Model.Part(documents).bits.length();
                CHECK.is("one partition, n = " + n + ", u = " + u, x.fixedLength(0, 64), due);
            }
        }
    }
}
