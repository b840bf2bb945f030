/** Promise 7: offline. */
public final class Promise07OfflineTest {
    private static final Check CHECK = new Check("promise 7, offline");

    public static void main(String[] args) {
        exceptions();
        endsOfRanges();
        nextEntry();
        known();
        noBlock();
        codes();
        orderOfCodes();
        records();
        CHECK.end();
    }

    private static void exceptions() {
        CHECK.script("there is no such site, stratum, person", Starts.TWO_ARMS + """
                reserve 0 0 = 0
                offline {MIN -1 1 9 10 MAX} 0 0 = Index
                offline 0 {MIN -1 8 9 MAX} 0 = Index
                offline 0 0 {MIN -1 100 101 MAX} = Index
                """);
        CHECK.script("there are no arms, but IndexOutOfBoundsException before", """
                site 0 = 1
                offline 0 {0 7} {0 99} = State
                offline 0 8 0 = Index
                offline 0 0 100 = Index
                offline 1 0 0 = Index
                close 0 = 0
                offline 0 0 0 = State
                """ + Starts.GOES_DOWN + """
                offline 0 0 0 = State
                offline 0 0 100 = Index
                """);
        CHECK.script("exceptions come before all codes", Starts.TWO_ARMS + """
                offline 0 8 0 = Index
                close 0 = 0
                offline 0 8 0 = Index
                offline 0 0 100 = Index
                """ + Starts.GOES_DOWN + """
                offline 0 8 0 = Index
                offline 1 0 0 = Index
                """);
    }

    private static void endsOfRanges() {
        CHECK.script("the first and the last site, stratum, person", """
                arms 2 1 0 0 3 -7046029254386353131 = done
                site 0 = 1
                site 9 = 2
                kits 0 0 0 9 = 9
                kits 0 1 50 9 = 9
                kits 9 0 900 9 = 9
                kits 9 1 991 9 = 9
                reserve 0 0 = 0
                reserve 9 0 = 1
                reserve 0 7 = 0
                reserve 9 7 = 1
                offline 0 0 {0 99} = {50 0}
                offline 9 0 {0 99} = {991 900}
                offline 0 7 {1 98} = {51 2}
                offline 9 7 {1 98} = {902 992}
                """);
    }

    private static void nextEntry() {
        CHECK.script("the reserve's next entry, whose kit is used", Starts.TWO_ARMS + """
                reserve 0 0 = 0
                reserve 0 1 = 0
                stock 0 {0 1 2} = {9 6 0}
                offline 0 0 5 = 50
                stock 0 {0 1 2} = {9 5 1}
                offline 0 1 6 = 2
                offline 0 0 7 = 0
                offline 0 1 8 = 51
                offline 0 1 9 = 3
                offline 0 0 10 = 1
                stock 0 {0 1 2} = {9 0 6}
                offline 0 {0 1} 11 = NO_BLOCK
                """);
        CHECK.script("the person is not known to the desk yet", Starts.TWO_ARMS + """
                reserve 0 0 = 0
                offline 0 0 0 = 50
                key {0 1} 0 0 = {1 2}
                arm 0 0 = NONE
                open 0 1 = 1
                arm 0 0 = NONE
                count 0 {0 1} = 0
                spread 0 = 0
                used 50 = 0
                """);
        CHECK.script("once it is opened too", Starts.TWO_ARMS + """
                reserve 0 0 = 0
                open 0 1 = 1
                offline 0 0 {0 1 2} = {50 0 1}
                offline 0 0 3 = NO_BLOCK
                """);
    }

    private static void known() {
        CHECK.script("KNOWN when the person was allotted before, wherever", Starts.TWO_ARMS + """
                site 1 = 2
                kits 1 0 100 2 = 2
                kits 1 1 200 1 = 1
                reserve 0 0 = 0
                reserve 0 1 = 0
                reserve 1 0 = 1
                offline 0 0 0 = 50
                offline 0 {0..7} 0 = KNOWN
                allot 0 2 1 = 4
                offline 0 {0 1} 1 = KNOWN
                offline 1 0 {0 1} = {200 100}
                report 0 = 1
                reserve 0 0 = 2
                offline 0 0 {0 1} = KNOWN
                offline 0 0 2 = 0
                """);
    }

    private static void noBlock() {
        CHECK.script("NO_BLOCK when there is none", Starts.TWO_ARMS + """
                site 1 = 2
                offline 0 {0..7} 0 = NO_BLOCK
                reserve 0 0 = 0
                offline 0 {1..7} 0 = NO_BLOCK
                offline 1 {0..7} 0 = NO_BLOCK
                allot 0 1 0 = 2
                offline 0 1 1 = NO_BLOCK
                """);
        CHECK.script("NO_BLOCK when all its entries went, and when it is gone", Starts.TWO_ARMS + """
                reserve 0 0 = 0
                offline 0 0 {0 1 2} = {50 0 1}
                offline 0 0 {3 99} = NO_BLOCK
                report 0 = 3
                offline 0 0 3 = NO_BLOCK
                reserve 0 0 = 1
                offline 0 0 3 = 51
                report 0 = 1
                offline 0 0 4 = NO_BLOCK
                """);
    }

    private static void codes() {
        CHECK.script("CLOSED", Starts.TWO_ARMS + """
                reserve 0 0 = 0
                offline 0 0 0 = 50
                close 0 = 2
                offline 0 {0..7} 1 = CLOSED
                """);
        CHECK.script("DOWN, and all is as it was before", Starts.TWO_ARMS + """
                reserve 0 0 = 0
                tear = done
                offline 0 0 0 = torn
                offline 0 {0..7} {0 1} = DOWN
                stock 0 {1 2} = {3 0}
                mount = 5
                stock 0 {1 2} = {3 0}
                offline 0 0 1 = 50
                offline 0 0 0 = 0
                """);
    }

    private static void orderOfCodes() {
        String start = Starts.TWO_ARMS + """
                reserve 0 0 = 0
                offline 0 0 {0 1 2} = {50 0 1}
                offline 0 {0 1} 0 = KNOWN
                offline 0 {0 1} 3 = NO_BLOCK
                """;
        String down = Starts.GOES_DOWN + "offline 0 {0 1} {0 3} = DOWN\n";
        CHECK.script("KNOWN before NO_BLOCK, DOWN before both", start + down);
        CHECK.script("CLOSED before KNOWN and NO_BLOCK, DOWN before it",
                start + "close 0 = 0\noffline 0 {0 1} {0 3} = CLOSED\n" + down);
        CHECK.script("a code, and not DOWN, though a tear waits", start + """
                tear = done
                offline 0 0 0 = KNOWN
                offline 0 0 3 = NO_BLOCK
                report 0 = torn
                """);
    }

    private static void records() {
        CHECK.script("a record each", Starts.TWO_ARMS + """
                reserve 0 0 = 0
                offline 0 0 {0 1} = {50 0}
                offline 0 0 0 = KNOWN
                """ + Starts.records(7));
    }
}
