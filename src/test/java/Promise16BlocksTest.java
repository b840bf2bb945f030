import java.util.List;

/** Promise 16: blocks. */
public final class Promise16BlocksTest {
    private static final Check CHECK = new Check("promise 16, blocks");

    public static void main(String[] args) {
        CHECK.script("there is no such stratum", """
                blocks {MIN -1 8 9 MAX} = Index
                blocks {0..7} = 0
                """);
        CHECK.script("there are no arms, or only arms", """
                open 0 1 = 1
                blocks {0 7} = 0
                arms 1 1 0 0 2 1 = done
                blocks {0 7} = 0
                """);
        CHECK.script("a block is taken with its first entry, not with the last one before", Starts.TWO_ARMS + """
                allot 0 0 0 = 50
                blocks 0 = 1
                allot 0 0 {1 2} = {0 1}
                blocks 0 = 1
                allot 0 0 3 = 51
                blocks 0 = 2
                blocks {1..7} = 0
                """);
        CHECK.script("for the desk and for reserves, gone or not", Starts.TWO_ARMS + """
                allot 0 0 0 = 50
                reserve 0 0 = 1
                reserve 0 7 = 0
                blocks {0 7 1} = {2 1 0}
                report 0 = 0
                blocks {0 7 1} = {2 1 0}
                reserve 0 0 = 2
                close 0 = 3
                blocks {0 7 1} = {3 1 0}
                """);
        CHECK.script("none by a call that is refused or torn", Starts.TWO_ARMS + """
                site 1 = 2
                allot 1 0 0 = NO_KIT
                reserve 1 0 = NO_KIT
                offline 0 0 0 = NO_BLOCK
                blocks 0 = 0
                tear = done
                allot 0 0 0 = torn
                blocks 0 = 0
                blocks 8 = Index
                mount = 5
                blocks 0 = 0
                tear = done
                reserve 0 0 = torn
                mount = 5
                blocks 0 = 0
                reserve 0 0 = 0
                blocks 0 = 1
                """);
        asManyAsCallsCanTake();
        CHECK.end();
    }

    /** All 512 calls of an object: 252 blocks of 24, one behind the other, are the most of this size. */
    private static void asManyAsCallsCanTake() {
        TrialDesk desk = new TrialDesk();
        desk.arms(3, 3, 3, 3, 24, 8);
        desk.site(0);
        for (int arm = 0; arm < 4; arm++) {
            desk.kits(0, arm, 6 * arm, 6);
        }
        for (int block = 0; block < 252; block++) {
            CHECK.due("reserve", desk.reserve(0, 5), block);
            CHECK.due("report", desk.report(0), 0);
        }
        CHECK.due("open", desk.open(0, 1), 1);
        List<Integer> list = Lists.entries(new int[] {3, 3, 3, 3}, 24, 8, 5, 252);
        CHECK.due("the last entry", desk.entry(5, 252 * 24 - 1), list.get(252 * 24 - 1));
    }
}
