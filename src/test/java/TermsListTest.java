import java.util.List;

/** Terms, "ARMS", and with them promises 2, 6 and 15: the lists that the seed tells. */
public final class TermsListTest {
    private static final Check CHECK = new Check("terms, the list");
    private static final int BLOCKS = 5;
    private static final long DRAWS = 1L << 31;

    public static void main(String[] args) {
        everyKindOfBlock();
        eachStratum();
        endsOfSeeds();
        wordOfZero();
        drawnAnew();
        drawnAnewTwice();
        writtenOut();
        CHECK.end();
    }

    /** All weights with every size that fits, in a stratum of its own. */
    private static void everyKindOfBlock() {
        int turn = 0;
        for (int code = 0; code < 256; code++) {
            int[] w = {code & 3, code >> 2 & 3, code >> 4 & 3, code >> 6};
            int total = w[0] + w[1] + w[2] + w[3];
            if (w[0] == 0 || w[1] == 0 || w[2] == 0 && w[3] != 0) {
                continue;
            }
            for (int size = total; size <= 24; size += total) {
                compare("each arm as often as its weight", w, size, turn * 0x5DEECE66DL - 1000, turn % 8);
                turn++;
            }
        }
    }

    private static void eachStratum() {
        for (int stratum = 0; stratum < 8; stratum++) {
            compare("a stratum's own list", new int[] {1, 2, 3, 2}, 24, 77, stratum);
        }
    }

    private static void endsOfSeeds() {
        long[] seeds = {Long.MIN_VALUE, Long.MIN_VALUE + 1, Integer.MIN_VALUE, -1, 0, 1, Integer.MAX_VALUE,
            1L << 32, Long.MAX_VALUE};
        for (long seed : seeds) {
            for (int stratum = 0; stratum < 8; stratum++) {
                compare("a seed at an end", new int[] {1, 1, 1, 1}, 12, seed, stratum);
            }
        }
    }

    /** The seeds whose word would be 0, and those beside them. */
    private static void wordOfZero() {
        for (int stratum = 0; stratum < 8; stratum++) {
            long seed = (stratum + 1) * Lists.STEP;
            for (int other = 0; other < 8; other++) {
                compare("1 if that is 0", new int[] {1, 1, 1, 0}, 9, seed, other);
            }
            compare("a word of 1", new int[] {1, 1, 1, 0}, 9, seed ^ 1, stratum);
            compare("a word of -1", new int[] {1, 1, 1, 0}, 9, ~seed, stratum);
        }
    }

    /** For each n, draws at both ends of what is kept; 2 ^ 31 leaves no rest for powers of 2. */
    private static void drawnAnew() {
        for (int n = 2; n <= 24; n++) {
            long kept = DRAWS - DRAWS % n;
            for (long v = kept - 2; v < DRAWS; v++) {
                drawBelow(n, v);
            }
            drawBelow(n, 0);
            drawBelow(n, n - 1);
            drawBelow(n, n);
        }
    }

    /** The first draw below n in blocks of 24 has the upper bits v. */
    private static void drawBelow(int n, long v) {
        long word = v << 33 | 0x12345678L;
        for (int below = 24; below >= n; below--) {
            long later = word;
            word = Lists.before(word);
            CHECK.due("the word behind the one before", Lists.after(word), later);
        }
        compare("a draw below " + n + " of " + v, new int[] {3, 3, 1, 1}, 24, word ^ 4 * Lists.STEP, 3);
    }

    /** Words whose next two draws below 24 are both drawn anew, found by trying many. */
    private static void drawnAnewTwice() {
        for (long word : new long[] {-1891533699518222883L, -8915994680487152626L}) {
            long first = Lists.after(word) >>> 33;
            long second = Lists.after(Lists.after(word)) >>> 33;
            CHECK.due("both are too large", Math.min(first, second) >= DRAWS - DRAWS % 24, true);
            compare("drawn anew twice", new int[] {3, 3, 1, 1}, 24, word ^ 8 * Lists.STEP, 7);
        }
    }

    /** Written out, so that a fault that this test's own lists shared would be seen. */
    private static void writtenOut() {
        CHECK.due("list", Lists.entries(new int[] {2, 1, 1, 0}, 8, 12345, 2, 2).toString(),
                "[0, 2, 0, 2, 0, 0, 1, 1, 0, 2, 2, 0, 0, 0, 1, 1]");
        CHECK.due("list", Lists.entries(new int[] {1, 2, 0, 0}, 6, -7, 1, 3).toString(),
                "[0, 1, 1, 1, 0, 1, 0, 1, 1, 1, 0, 1, 0, 1, 0, 1, 1, 1]");
        CHECK.due("list", Lists.entries(new int[] {2, 1, 0, 0}, 3, Lists.STEP, 0, 4).toString(),
                "[1, 0, 0, 1, 0, 0, 0, 1, 0, 0, 0, 1]");
    }

    private static void compare(String what, int[] w, int size, long seed, int stratum) {
        TrialDesk desk = new TrialDesk();
        desk.arms(w[0], w[1], w[2], w[3], size, seed);
        desk.site(0);
        for (int arm = 0; arm < 4 && w[arm] > 0; arm++) {
            desk.kits(0, arm, 50 * arm, 50);
        }
        for (int block = 0; block < BLOCKS; block++) {
            CHECK.due(what + ", reserve", desk.reserve(0, stratum), block);
            desk.report(0);
        }
        desk.open(0, 1);
        List<Integer> want = Lists.entries(w, size, seed, stratum, BLOCKS);
        for (int i = 0; i < want.size(); i++) {
            CHECK.due(what + ", seed " + seed + ", size " + size + ", entry " + i, desk.entry(stratum, i), want.get(i));
        }
        CHECK.due(what + ", entry behind the list", desk.entry(stratum, want.size()), TrialDesk.NONE);
    }
}
