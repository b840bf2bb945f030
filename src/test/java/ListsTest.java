import java.util.List;

/** The lists that the seed tells: promises 2 and 15, and the terms of block, word and draw. */
public final class ListsTest {
    private static final Check CHECK = new Check();
    private static final int BLOCKS = 5;

    public static void main(String[] args) {
        everyKindOfBlock();
        wordOfZero();
        drawnAnew();
        rowsOfTheDocument();
        CHECK.end();
    }

    /** All weights with every size that fits, in a stratum of its own. */
    private static void everyKindOfBlock() {
        int turn = 0;
        for (int code = 0; code < 256; code++) {
            int[] w = {code & 3, code >> 2 & 3, code >> 4 & 3, code >> 6};
            int total = w[0] + w[1] + w[2] + w[3];
            if (w[0] == 0 || w[1] == 0 || w[2] == 0 && w[3] != 0) {
                continue;
            }
            for (int size = total; size <= 24; size += total) {
                compare(w, size, turn * 0x5DEECE66DL - 1000, turn % 8);
                turn++;
            }
        }
    }

    private static void wordOfZero() {
        for (int stratum = 0; stratum < 8; stratum++) {
            compare(new int[] {1, 1, 1, 0}, 9, (stratum + 1) * Lists.STEP, stratum);
        }
    }

    /** Seeds whose first draw below n comes at the end of what is kept: 2 ^ 31 leaves a rest for each n but powers of 2. */
    private static void drawnAnew() {
        int[] weights = {1, 2, 0, 0};
        for (int size = 3; size <= 24; size += 3) {
            for (long v = (1L << 31) - 24; v < 1L << 31; v++) {
                long first = v << 33 | 0x12345678L;
                CHECK.due("the word behind the one before", Lists.after(Lists.before(first)), first);
                compare(weights, size, Lists.before(first) ^ 4 * Lists.STEP, 3);
            }
        }
    }

    /** Written out, so that a fault that this test's own lists shared would be seen. */
    private static void rowsOfTheDocument() {
        CHECK.due("list", Lists.entries(new int[] {2, 1, 1, 0}, 8, 12345, 2, 2).toString(),
                "[0, 2, 0, 2, 0, 0, 1, 1, 0, 2, 2, 0, 0, 0, 1, 1]");
        CHECK.due("list", Lists.entries(new int[] {1, 2, 0, 0}, 6, -7, 1, 3).toString(),
                "[0, 1, 1, 1, 0, 1, 0, 1, 1, 1, 0, 1, 0, 1, 0, 1, 1, 1]");
        CHECK.due("list", Lists.entries(new int[] {2, 1, 0, 0}, 3, Lists.STEP, 0, 4).toString(),
                "[1, 0, 0, 1, 0, 0, 0, 1, 0, 0, 0, 1]");
    }

    private static void compare(int[] w, int size, long seed, int stratum) {
        TrialDesk desk = new TrialDesk();
        desk.arms(w[0], w[1], w[2], w[3], size, seed);
        desk.site(0);
        for (int arm = 0; arm < 4 && w[arm] > 0; arm++) {
            desk.kits(0, arm, 50 * arm, 50);
        }
        for (int block = 0; block < BLOCKS; block++) {
            CHECK.due("reserve", desk.reserve(0, stratum), block);
            desk.report(0);
        }
        desk.open(0, 1);
        List<Integer> want = Lists.entries(w, size, seed, stratum, BLOCKS);
        for (int i = 0; i < want.size(); i++) {
            CHECK.due("seed " + seed + " size " + size + " entry " + i, desk.entry(stratum, i), want.get(i));
        }
        CHECK.due("entry behind the list", desk.entry(stratum, want.size()), TrialDesk.NONE);
    }
}
