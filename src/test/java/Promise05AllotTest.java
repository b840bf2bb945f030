import java.util.List;

/** Promise 5: allot. */
public final class Promise05AllotTest {
    private static final Check CHECK = new Check("promise 5, allot");

    public static void main(String[] args) {
        exceptions();
        endsOfRanges();
        openBlock();
        leastFreeKit();
        codes();
        orderOfCodes();
        noKit();
        personBefore();
        everyoneOfASite();
        records();
        CHECK.end();
    }

    private static void exceptions() {
        CHECK.script("there is no such site, stratum, person", Starts.TWO_ARMS + """
                allot {MIN -1 1 9 10 MAX} 0 0 = Index
                allot 0 {MIN -1 8 9 MAX} 0 = Index
                allot 0 0 {MIN -1 100 101 MAX} = Index
                """);
        CHECK.script("there are no arms, but IndexOutOfBoundsException before", """
                site 0 = 1
                allot 0 0 0 = State
                allot 1 0 0 = Index
                allot 0 8 0 = Index
                allot 0 0 100 = Index
                close 0 = 0
                allot 0 0 0 = State
                open 0 1 = 1
                allot 0 0 0 = State
                tear = done
                site 1 = torn
                allot 0 0 0 = State
                allot 1 0 0 = Index
                """);
        CHECK.script("exceptions come before all codes", Starts.TWO_ARMS + """
                open 0 1 = 1
                allot 0 8 0 = Index
                allot 0 0 100 = Index
                allot 1 0 0 = Index
                close 0 = 0
                allot 0 8 0 = Index
                tear = done
                site 1 = torn
                allot 0 8 0 = Index
                allot 0 0 -1 = Index
                allot 1 0 0 = Index
                """);
    }

    private static void endsOfRanges() {
        CHECK.script("the first and the last site, stratum, person", """
                arms 2 1 0 0 3 -7046029254386353131 = done
                site 0 = 1
                site 9 = 2
                kits 0 0 0 10 = 10
                kits 0 1 50 10 = 10
                kits 9 0 900 10 = 10
                kits 9 1 990 10 = 10
                allot 0 0 {0 99} = {50 0}
                allot 9 0 {0 99} = {900 990}
                allot 0 7 {1 98} = {51 1}
                allot 9 7 {1 98} = {901 902}
                blocks {0 7} = 2
                """);
    }

    private static void openBlock() {
        CHECK.script("the next entry of the open block, all sites together", Starts.TWO_ARMS + """
                site 1 = 2
                kits 1 0 100 5 = 5
                kits 1 1 200 5 = 5
                blocks 0 = 0
                allot 0 0 0 = 50
                blocks 0 = 1
                allot 1 0 0 = 100
                allot 1 0 99 = 101
                blocks 0 = 1
                allot 1 0 98 = 200
                blocks 0 = 2
                """);
        CHECK.script("a reserve takes the next block, and the open one goes on", Starts.TWO_ARMS + """
                allot 0 0 0 = 50
                reserve 0 0 = 1
                allot 0 0 {1 2} = {2 3}
                blocks 0 = 2
                allot 0 0 {3 4 5} = {4 52 5}
                blocks 0 = 3
                """);
        CHECK.script("the block behind all that were taken is opened, if there is none", Starts.TWO_ARMS + """
                reserve 0 0 = 0
                report 0 = 0
                reserve 0 0 = 1
                report 0 = 0
                allot 0 0 {0 1 2} = {0 50 1}
                allot 0 0 {3 4 5} = {2 3 51}
                blocks 0 = 4
                """);
        CHECK.script("each stratum has its own open block", Starts.TWO_ARMS + """
                allot 0 0 0 = 50
                allot 0 1 1 = 0
                allot 0 0 2 = 1
                allot 0 1 3 = 51
                allot 0 7 4 = 52
                allot 0 0 5 = 2
                allot 0 1 6 = 3
                blocks {0 1 7} = 1
                blocks {2..6} = 0
                """);
    }

    private static void leastFreeKit() {
        CHECK.script("the least free kit of that arm at the site", """
                arms 2 1 0 0 3 -7046029254386353131 = done
                site 0 = 1
                site 1 = 2
                kits 1 0 0 5 = 5
                kits 0 0 20 2 = 2
                kits 0 1 5 2 = 2
                kits 0 0 10 2 = 4
                kits 0 1 999 1 = 3
                allot 0 0 {0 1 2} = {5 10 11}
                kits 0 0 7 1 = 3
                allot 0 0 {3 4 5} = {6 7 20}
                allot 0 2 6 = 21
                allot 0 2 7 = NO_KIT
                allot 0 7 7 = 999
                """);
        CHECK.script("kits that were marked are free again", Starts.TWO_ARMS + """
                reserve 0 0 = 0
                allot 0 1 0 = 2
                report 0 = 0
                allot 0 1 {1 2} = {50 0}
                """);
    }

    private static void codes() {
        CHECK.script("OPENED", Starts.TWO_ARMS + """
                allot 0 0 0 = 50
                open 0 1 = 1
                allot 0 {0..7} 1 = OPENED
                """);
        CHECK.script("CLOSED, though the stratum goes on at other sites", Starts.TWO_ARMS + """
                site 1 = 2
                kits 1 0 100 5 = 5
                allot 0 0 0 = 50
                close 0 = 0
                allot 0 {0..7} 1 = CLOSED
                allot 1 0 1 = 100
                """);
        CHECK.script("DOWN, and all is as it was before", Starts.TWO_ARMS + """
                allot 0 0 0 = 50
                tear = done
                allot 0 0 1 = torn
                allot 0 {0..7} {1 2} = DOWN
                blocks 0 = 1
                mount = 5
                allot 0 0 1 = 0
                tear = done
                allot 0 1 2 = torn
                blocks 1 = 0
                mount = 6
                blocks 1 = 0
                allot 0 1 2 = 1
                """);
    }

    private static void orderOfCodes() {
        String start = Starts.TWO_ARMS + """
                site 1 = 2
                kits 1 1 100 1 = 1
                allot 1 0 0 = 100
                allot 1 0 1 = NO_KIT
                allot 1 0 0 = KNOWN
                """;
        String down = "tear = done\nsite 2 = torn\nallot 1 0 {0 1} = DOWN\n";
        CHECK.script("KNOWN before NO_KIT, DOWN before both", start + down);
        CHECK.script("CLOSED before KNOWN and NO_KIT, DOWN before it",
                start + "close 1 = 0\nallot 1 0 {0 1} = CLOSED\n" + down);
        CHECK.script("OPENED before KNOWN and NO_KIT, DOWN before it",
                start + "open 0 1 = 1\nallot 1 0 {0 1} = OPENED\n" + down);
        CHECK.script("OPENED before CLOSED", start + "close 1 = 0\nopen 0 1 = 1\nallot 1 0 {0 1} = OPENED\n" + down);
        CHECK.script("a code, and not DOWN, though a tear waits", start + """
                tear = done
                allot 1 0 1 = NO_KIT
                allot 1 0 0 = KNOWN
                allot 0 0 0 = torn
                """);
    }

    private static void noKit() {
        CHECK.script("NO_KIT takes no entry and no block", """
                arms 2 1 0 0 3 -7046029254386353131 = done
                site 0 = 1
                site 1 = 2
                allot 0 0 0 = NO_KIT
                kits 0 0 0 2 = 2
                allot 0 0 0 = NO_KIT
                blocks 0 = 0
                kits 1 1 50 1 = 1
                allot 0 0 0 = NO_KIT
                allot 1 0 0 = 50
                blocks 0 = 1
                allot 1 0 1 = NO_KIT
                allot 0 0 {0 1} = {0 1}
                allot 0 0 2 = NO_KIT
                blocks 0 = 1
                kits 0 1 60 1 = 1
                allot 0 0 2 = 60
                blocks 0 = 2
                """);
        CHECK.script("NO_KIT when all of them are marked or used", """
                arms 2 1 0 0 3 -7046029254386353131 = done
                site 0 = 1
                kits 0 0 0 2 = 2
                kits 0 1 50 1 = 1
                reserve 0 0 = 0
                allot 0 {0 1} 0 = NO_KIT
                report 0 = 0
                allot 0 0 {0 1 2} = {50 0 1}
                stock 0 0 = 0
                allot 0 {0..7} 3 = NO_KIT
                """);
    }

    private static void personBefore() {
        CHECK.script("KNOWN when the person was allotted before, wherever", Starts.TWO_ARMS + """
                site 1 = 2
                kits 1 0 100 5 = 5
                allot 0 0 0 = 50
                allot 0 {0..7} 0 = KNOWN
                reserve 0 1 = 0
                offline 0 1 1 = 0
                allot 0 {0 1} 1 = KNOWN
                report 0 = 1
                allot 0 {0 1} 1 = KNOWN
                key 0 0 2 = 1
                allot 0 0 2 = 1
                allot 1 0 0 = 100
                """);
    }

    /** A hundred people with the last kit of all, by a list of fifty blocks. */
    private static void everyoneOfASite() {
        TrialDesk desk = new TrialDesk();
        desk.arms(1, 1, 0, 0, 2, 1);
        desk.site(4);
        desk.kits(4, 0, 0, 50);
        desk.kits(4, 1, 950, 50);
        List<Integer> list = Lists.entries(new int[] {1, 1, 0, 0}, 2, 1, 3, 50);
        int[] next = {0, 950};
        for (int person = 0; person < 100; person++) {
            CHECK.due("allot of person " + person, desk.allot(4, 3, person), next[list.get(person)]++);
        }
        CHECK.due("used kits", desk.stock(4, 2), 100);
        CHECK.due("blocks", desk.blocks(3), 50);
        for (int person = 0; person < 100; person++) {
            CHECK.due("allot once more", desk.allot(4, 0, person), TrialDesk.KNOWN);
        }
        CHECK.due("a person more", Calls.answer(desk, "allot 4 0 100"), "Index");
        CHECK.due("used kits", desk.stock(4, 2), 100);
    }

    private static void records() {
        CHECK.script("a record each, also when a block is opened", Starts.TWO_ARMS + """
                allot 0 0 {0..3} = {50 0 1 51}
                allot 0 0 0 = KNOWN
                """ + Starts.records(8));
    }
}
