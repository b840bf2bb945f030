import java.util.ArrayList;
import java.util.List;

/** The document's lists of permuted blocks, written anew and plainly, to compare with. */
final class Lists {
    static final long STEP = 0x9E3779B97F4A7C15L;

    private long word;

    private Lists(long word) {
        this.word = word;
    }

    /** The first entries of a stratum's list. */
    static List<Integer> entries(int[] weights, int size, long seed, int stratum, int blocks) {
        long word = seed ^ STEP * (stratum + 1L);
        Lists lists = new Lists(word == 0 ? 1 : word);
        List<Integer> all = new ArrayList<>();
        for (int block = 0; block < blocks; block++) {
            all.addAll(lists.block(weights, size));
        }
        return all;
    }

    private List<Integer> block(int[] weights, int size) {
        int total = 0;
        for (int weight : weights) {
            total += weight;
        }
        List<Integer> block = new ArrayList<>();
        for (int arm = 0; arm < weights.length; arm++) {
            for (int i = 0; i < weights[arm] * size / total; i++) {
                block.add(arm);
            }
        }
        for (int i = size - 1; i >= 1; i--) {
            int other = below(i + 1);
            block.set(other, block.set(i, block.get(other)));
        }
        return block;
    }

    private int below(int n) {
        while (true) {
            word = after(word);
            long v = word >>> 33;
            if (v < (1L << 31) - (1L << 31) % n) {
                return (int) (v % n);
            }
        }
    }

    static long after(long word) {
        long w = word ^ (word << 13);
        w = w ^ (w >>> 7);
        return w ^ (w << 17);
    }

    /** The word whose next one is this. */
    static long before(long word) {
        return undoLeft(undoRight(undoLeft(word, 17), 7), 13);
    }

    private static long undoLeft(long word, int shift) {
        long w = word;
        for (int done = shift; done < 64; done += shift) {
            w = word ^ (w << shift);
        }
        return w;
    }

    private static long undoRight(long word, int shift) {
        long w = word;
        for (int done = shift; done < 64; done += shift) {
            w = word ^ (w >>> shift);
        }
        return w;
    }
}
