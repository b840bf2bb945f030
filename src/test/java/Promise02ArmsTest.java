/** Promise 2: arms. */
public final class Promise02ArmsTest {
    private static final Check CHECK = new Check("promise 2, arms");
    private static final String GOOD = "arms 1 1 0 0 2 1";

    public static void main(String[] args) {
        weightsOutside();
        weightsInside();
        everyWeightAndSize();
        sizeOutside();
        anySeed();
        toldBefore();
        blockTaken();
        noBlockTaken();
        down();
        records();
        CHECK.end();
    }

    private static void weightsOutside() {
        CHECK.script("a is 1 .. 3", """
                arms {MIN -1 0 4 5 MAX} 1 0 0 {1 2 3 4 5 12 24} 1 = Argument
                arms -1 3 0 0 2 1 = Argument
                """);
        CHECK.script("b is 1 .. 3", """
                arms 1 {MIN -1 0 4 5 MAX} 0 0 {1 2 3 4 5 12 24} 1 = Argument
                arms 3 -1 0 0 2 1 = Argument
                """);
        CHECK.script("c is 0 .. 3", """
                arms 1 1 {MIN -1 4 5 MAX} 0 {1 2 3 4 6 12 24} 1 = Argument
                arms 2 2 -1 0 3 1 = Argument
                """);
        CHECK.script("d is 0 .. 3", """
                arms 1 1 1 {MIN -1 4 5 MAX} {1 2 3 4 7 8 24} 1 = Argument
                arms 2 2 2 -1 5 1 = Argument
                """);
        CHECK.script("d is 0 if c is", "arms 1 1 0 {1 2 3} {3 4 5 12 24} 1 = Argument");
        CHECK.script("weights whose sum wraps", """
                arms MAX MAX 2 2 2 1 = Argument
                arms 1 1 MAX MAX 2 1 = Argument
                arms MIN MIN 1 1 2 1 = Argument
                """);
    }

    private static void weightsInside() {
        CHECK.script("two arms", """
                arms {1 2 3} 1 0 0 12 1 = done
                count 0 {0 1} = NONE
                count 0 {2 3} = Index
                """);
        CHECK.script("three arms", """
                arms 1 1 {1 2} 0 12 1 = done
                arms 1 1 3 0 20 1 = done
                count 0 {0 1 2} = NONE
                count 0 3 = Index
                """);
        CHECK.script("four arms", """
                arms 1 1 1 {1 3} 24 1 = done
                arms 3 3 3 3 24 1 = done
                count 0 {0 1 2 3} = NONE
                count 0 4 = Index
                """);
    }

    /** All of them: weights from -1 to 4 and sizes from -1 to 26. */
    private static void everyWeightAndSize() {
        for (int code = 0; code < 1296; code++) {
            int[] w = {code % 6 - 1, code / 6 % 6 - 1, code / 36 % 6 - 1, code / 216 - 1};
            TrialDesk desk = new TrialDesk();
            for (int size = -1; size <= 26; size++) {
                String call = "arms " + w[0] + " " + w[1] + " " + w[2] + " " + w[3] + " " + size + " 5";
                CHECK.due(call, Calls.answer(desk, call), fits(w, size) ? "done" : "Argument");
            }
        }
    }

    private static boolean fits(int[] w, int size) {
        boolean weights = w[0] >= 1 && w[0] <= 3 && w[1] >= 1 && w[1] <= 3 && w[2] >= 0 && w[2] <= 3
                && w[3] >= 0 && w[3] <= 3 && (w[2] > 0 || w[3] == 0);
        return weights && size >= 1 && size <= 24 && size % (w[0] + w[1] + w[2] + w[3]) == 0;
    }

    private static void sizeOutside() {
        CHECK.script("SIZE is 1 .. 24 and a multiple", """
                arms 1 1 0 0 {MIN -24 -2 -1 0 1 3 23 25 26 MAX} 1 = Argument
                arms 1 1 0 0 {2 22 24} 1 = done
                arms 3 3 3 3 {-12 0 1 6 11 13 23 25 36} 1 = Argument
                arms 3 3 3 3 {12 24} 1 = done
                arms 1 2 0 0 {1 2 4 23 25 27} 1 = Argument
                arms 1 2 0 0 {3 21 24} 1 = done
                """);
    }

    private static void anySeed() {
        CHECK.script("every long is a seed", """
                arms 1 1 0 0 2 {LONG_MIN -1 0 1 LONG_MAX} = done
                """);
    }

    private static void toldBefore() {
        CHECK.script("arms that were told before do not count any more", """
                arms 1 1 1 1 8 77 = done
                site 0 = 1
                kits 0 0 0 10 = 10
                kits 0 1 50 5 = 5
                kits 0 3 100 5 = 5
                reserve 0 0 = NO_KIT
                arms 2 1 0 0 3 -7046029254386353131 = done
                count 0 {2 3} = Index
                kits 0 3 200 1 = Index
                stock 0 0 = 20
                reserve 0 0 = 0
                offline 0 0 {0 1 2} = {50 0 1}
                offline 0 0 3 = NO_BLOCK
                report 0 = 3
                open 0 1 = 1
                entry 0 {0 1 2 3} = {1 0 0 -1}
                spread 0 = 0
                """);
        CHECK.script("more arms than before", """
                arms 1 1 0 0 2 1 = done
                count 0 2 = Index
                arms 1 1 1 1 4 99 = done
                site 0 = 1
                kits 0 0 10 1 = 1
                kits 0 1 11 1 = 1
                kits 0 2 12 1 = 1
                kits 0 3 13 1 = 1
                reserve 0 0 = 0
                offline 0 0 {0..3} = {10 12 11 13}
                """);
        CHECK.script("the same arms once more, behind a look at the list", """
                arms 2 1 0 0 3 -7046029254386353131 = done
                site 0 = 1
                allot 0 0 0 = NO_KIT
                reserve 0 0 = NO_KIT
                arms 2 1 0 0 3 -7046029254386353131 = done
                kits 0 0 0 10 = 10
                kits 0 1 50 5 = 5
                allot 0 0 {0..5} = {50 0 1 51 2 3}
                """);
        CHECK.script("a seed more, and the list is another", """
                arms 1 1 0 0 2 1 = done
                site 0 = 1
                allot 0 1 0 = NO_KIT
                arms 1 1 0 0 2 99 = done
                arms 1 2 0 0 6 -7 = done
                kits 0 0 0 10 = 10
                kits 0 1 50 10 = 10
                allot 0 1 {0..7} = {0 50 51 52 1 53 2 54}
                """);
    }

    private static void blockTaken() {
        for (int stratum = 0; stratum < 8; stratum++) {
            CHECK.script("a block was taken for a reserve of stratum " + stratum, Starts.TWO_ARMS
                    + "reserve 0 " + stratum + " = 0\n" + GOOD + " = State\narms 0 1 0 0 2 1 = Argument\n");
        }
        CHECK.script("a block was taken for the desk", Starts.TWO_ARMS + """
                allot 0 7 0 = 50
                arms 1 1 0 0 2 1 = State
                arms 2 1 0 0 3 -7046029254386353131 = State
                arms {0 4} 1 0 0 {2 5} 1 = Argument
                arms 1 1 0 0 {0 3 26} 1 = Argument
                """);
        CHECK.script("a block was taken, though its reserve is gone", Starts.TWO_ARMS + """
                reserve 0 0 = 0
                report 0 = 0
                arms 1 1 0 0 2 1 = State
                close 0 = 0
                arms 1 1 0 0 2 1 = State
                open 0 1 = 1
                arms 1 1 0 0 2 1 = State
                """);
    }

    private static void noBlockTaken() {
        CHECK.script("sites, kits, keys, and calls that are refused take no block", Starts.TWO_ARMS + """
                site 1 = 2
                key 0 0 0 = 1
                allot 1 0 0 = NO_KIT
                reserve 1 0 = NO_KIT
                offline 0 0 0 = NO_BLOCK
                report 0 = 0
                tear = done
                reserve 0 0 = torn
                mount = 7
                arms 1 1 0 0 2 1 = done
                close 0 = 0
                arms 1 1 0 0 2 1 = done
                open 0 1 = 1
                arms 1 1 1 0 3 1 = done
                count 0 2 = 0
                """);
    }

    private static void down() {
        CHECK.script("nothing comes of it while the desk is down", Starts.GOES_DOWN + """
                arms 1 1 0 0 2 1 = nothing
                count 0 0 = State
                mount = 0
                count 0 0 = State
                arms 1 1 0 0 2 1 = done
                """);
        CHECK.script("nothing comes of arms that are told again", Starts.TWO_ARMS + Starts.GOES_DOWN + """
                arms 1 1 1 1 4 1 = nothing
                count 0 2 = Index
                mount = 4
                count 0 2 = Index
                allot 0 0 {0..2} = {50 0 1}
                """);
        CHECK.script("exceptions come before DOWN", Starts.TWO_ARMS + "reserve 0 0 = 0\n" + Starts.GOES_DOWN + """
                arms 0 1 0 0 2 1 = Argument
                arms 1 1 0 0 2 1 = State
                """);
    }

    private static void records() {
        CHECK.script("a record each", """
                arms 1 1 0 0 2 1 = done
                arms 1 1 0 0 2 1 = done
                arms 1 1 0 0 3 1 = Argument
                """ + Starts.records(2));
        CHECK.script("torn", """
                tear = done
                arms 1 1 0 0 2 1 = torn
                count 0 0 = State
                mount = 0
                count 0 0 = State
                arms 1 1 1 0 3 1 = done
                tear = done
                arms 0 1 0 0 2 1 = Argument
                arms 1 1 0 0 2 1 = torn
                mount = 1
                count 0 2 = NONE
                """);
    }
}
