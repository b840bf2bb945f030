import java.util.Map;
import java.util.Random;
import java.util.TreeMap;

/** Random runs of 512 calls, each answer compared with the model's; the seeds are fixed. */
public final class ModelTest {
    private static final Check CHECK = new Check("random runs");
    private static final int RUNS = 600;
    private static final int CALLS = 512;
    private static final String[] OFTEN = {"allot", "offline", "reserve", "kits"};
    private static final String[] READS = {"arm", "count", "spread", "entry", "blocks", "stock", "used"};
    private static final String[] TURNS = {"report", "key", "site", "tear", "open", "close", "arms", "mount"};

    private final Random random;
    private final int sites;
    private final int strata;
    private final int[] rarity = new int[TURNS.length];
    private final Map<String, Integer> seen;

    private ModelTest(int run, Map<String, Integer> seen) {
        this.seen = seen;
        random = new Random(run);
        sites = 1 + random.nextInt(run % 2 == 0 ? 2 : 10);
        strata = 1 + random.nextInt(run % 3 == 0 ? 8 : 2);
        int[] base = {8, 4, 6, 12, 300, 60, 30, 3};
        for (int i = 0; i < rarity.length; i++) {
            rarity[i] = base[i] * (1 + random.nextInt(3));
        }
    }

    public static void main(String[] args) {
        Map<String, Integer> seen = new TreeMap<>();
        for (int run = 0; run < RUNS; run++) {
            new ModelTest(run, seen).go(run);
        }
        // A run that never reaches a code proves nothing of it.
        for (String call : new String[] {"site -2", "kits -2", "kits -4", "kits -5", "allot -2", "allot -3", "allot -4",
            "allot -5", "allot -6", "reserve -2", "reserve -3", "reserve -4", "reserve -8", "reserve -6", "offline -2",
            "offline -4", "offline -5", "offline -7", "report -2", "report -4", "close -2", "close -4", "key -2",
            "open -2", "open 0", "open 1", "arms State", "arms Argument", "mount State", "site Argument"}) {
            CHECK.due(call + " was answered", seen.containsKey(call), true);
        }
        CHECK.end();
    }

    private void go(int run) {
        TrialDesk desk = new TrialDesk();
        Model model = new Model();
        for (int i = 0; i < CALLS; i++) {
            String call = i == 3 ? "arms " + goodArms() : nextCall();
            String want = model.answer(call);
            String got = Calls.answer(desk, call);
            CHECK.due("run " + run + ", call " + i + ": " + call, got, want);
            seen.merge(call.split(" ")[0] + " " + want, 1, Integer::sum);
        }
    }

    private String nextCall() {
        for (int i = 0; i < TURNS.length; i++) {
            if (random.nextInt(rarity[i]) == 0) {
                return withNumbers(TURNS[i]);
            }
        }
        String[] kind = random.nextInt(4) == 0 ? READS : OFTEN;
        return withNumbers(kind[random.nextInt(kind.length)]);
    }

    private String withNumbers(String name) {
        switch (name) {
            case "arms": return "arms " + (random.nextInt(4) == 0 ? anyArms() : goodArms());
            case "kits": return join(name, site(), arm(), near(random.nextInt(40) * 25, 1000), 1 + random.nextInt(52));
            case "allot": case "offline": return join(name, site(), stratum(), person());
            case "key": return join(name, holder(), site(), person());
            case "reserve": return join(name, site(), stratum());
            case "arm": return join(name, site(), person());
            case "open": return join(name, holder(), holder());
            case "count": return join(name, stratum(), arm());
            case "entry": return join(name, stratum(), random.nextInt(60) - 1);
            case "stock": return join(name, site(), near(random.nextInt(3), 3));
            case "used": return join(name, near(random.nextInt(1000), 1000));
            case "spread": case "blocks": return join(name, stratum());
            case "site": case "report": case "close": return join(name, site());
            default: return name;
        }
    }

    private static String join(String name, int... numbers) {
        StringBuilder text = new StringBuilder(name);
        for (int number : numbers) {
            text.append(' ').append(number);
        }
        return text.toString();
    }

    private String goodArms() {
        int c = random.nextInt(4);
        int[] w = {1 + random.nextInt(3), 1 + random.nextInt(3), c, c == 0 ? 0 : random.nextInt(4)};
        int total = w[0] + w[1] + w[2] + w[3];
        int size = total * (1 + random.nextInt(24 / total));
        return w[0] + " " + w[1] + " " + w[2] + " " + w[3] + " " + size + " " + random.nextLong();
    }

    private String anyArms() {
        StringBuilder text = new StringBuilder();
        for (int i = 0; i < 4; i++) {
            text.append(random.nextInt(5)).append(' ');
        }
        return text.append(random.nextInt(27)).append(' ').append(random.nextInt()).toString();
    }

    /** The number, but now and then one at or beyond an end of its range. */
    private int near(int number, int end) {
        switch (random.nextInt(80)) {
            case 0: return -1;
            case 1: return end;
            case 2: return end - 1;
            case 3: return random.nextBoolean() ? Integer.MIN_VALUE : Integer.MAX_VALUE;
            default: return number;
        }
    }

    private int site() {
        return near(random.nextInt(sites), 10);
    }

    private int stratum() {
        return near(random.nextInt(strata), 8);
    }

    private int person() {
        return near(random.nextInt(100), 100);
    }

    private int holder() {
        return near(random.nextInt(5), 5);
    }

    private int arm() {
        return near(random.nextInt(3), 4);
    }
}
