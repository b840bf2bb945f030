import java.util.Random;

/** Any numbers in any state, beyond 512 calls too: no call throws anything but what its face names. */
public final class WildTest {
    private static final Check CHECK = new Check("any numbers");
    private static final String[] CALLS = {"arms 6 Argument State", "site 1 Index Argument",
        "kits 4 Index State Argument", "allot 3 Index State", "reserve 2 Index State", "offline 3 Index State",
        "report 1 Index", "close 1 Index", "key 3 Index", "arm 2 Index", "open 2 Index", "count 2 Index State",
        "spread 1 Index State", "entry 2 Index", "blocks 1 Index", "stock 2 Index Argument", "used 1 Index",
        "tear 0", "mount 0 State"};
    private static final int[] EDGES = {Integer.MIN_VALUE, Integer.MIN_VALUE + 1, -1000, -1, 0, 1, 2, 3, 4, 5, 7, 8,
        9, 10, 23, 24, 25, 49, 50, 51, 99, 100, 949, 950, 999, 1000, 1001, Integer.MAX_VALUE - 50, Integer.MAX_VALUE};

    public static void main(String[] args) {
        for (int run = 0; run < 300; run++) {
            wildRun(new Random(run), run % 3);
        }
        manyBlocks();
        CHECK.end();
    }

    private static void wildRun(Random random, int tameness) {
        TrialDesk desk = new TrialDesk();
        for (int i = 0; i < 2000; i++) {
            String[] kind = CALLS[random.nextInt(CALLS.length)].split(" ");
            StringBuilder call = new StringBuilder(kind[0]);
            for (int n = Integer.parseInt(kind[1]); n > 0; n--) {
                call.append(' ').append(random.nextInt(3) < tameness ? random.nextInt(4)
                        : EDGES[random.nextInt(EDGES.length)]);
            }
            String answer = Calls.answer(desk, call.toString());
            boolean allowed = answer.equals("done") || answer.matches("-?[0-9]+");
            for (int name = 2; name < kind.length; name++) {
                allowed |= answer.equals(kind[name]);
            }
            CHECK.due(call + " (" + answer + ") keeps to its face", allowed, true);
        }
    }

    /** Far more blocks than 512 calls can take. */
    private static void manyBlocks() {
        TrialDesk desk = new TrialDesk();
        desk.arms(3, 3, 3, 3, 24, 8);
        desk.site(0);
        for (int arm = 0; arm < 4; arm++) {
            desk.kits(0, arm, 50 * arm, 50);
        }
        for (int i = 0; i < 2000; i++) {
            int block = desk.reserve(0, 0);
            CHECK.due("reserve " + i, block == i || i > 250 && block < 0, true);
            desk.report(0);
        }
        CHECK.due("allot beyond all blocks", Calls.answer(desk, "allot 0 0 0"), TrialDesk.NO_KIT);
        CHECK.due("allot of another stratum", desk.allot(0, 1, 0) >= 0, true);
    }
}
