/** Promise 6: reserve. */
public final class Promise06ReserveTest {
    private static final Check CHECK = new Check("promise 6, reserve");
    private static final String TWO_SITES = """
            arms 1 2 0 0 6 -7 = done
            site 0 = 1
            site 1 = 2
            """;

    public static void main(String[] args) {
        exceptions();
        numberOfTheBlock();
        kitsOfTheEntries();
        held();
        noKit();
        largestBlock();
        codes();
        orderOfCodes();
        records();
        CHECK.end();
    }

    private static void exceptions() {
        CHECK.script("there is no such site, stratum", Starts.TWO_ARMS + """
                reserve {MIN -1 1 9 10 MAX} 0 = Index
                reserve 0 {MIN -1 8 9 MAX} = Index
                """);
        CHECK.script("there are no arms, but IndexOutOfBoundsException before", """
                site 0 = 1
                reserve 0 {0 7} = State
                reserve 0 8 = Index
                reserve 1 0 = Index
                close 0 = 0
                reserve 0 0 = State
                open 0 1 = 1
                reserve 0 0 = State
                tear = done
                site 1 = torn
                reserve 0 0 = State
                reserve 0 8 = Index
                """);
        CHECK.script("exceptions come before all codes", Starts.TWO_ARMS + """
                open 0 1 = 1
                reserve 0 8 = Index
                reserve 1 0 = Index
                close 0 = 0
                reserve 0 -1 = Index
                tear = done
                site 1 = torn
                reserve 0 8 = Index
                reserve 1 0 = Index
                """);
    }

    private static void numberOfTheBlock() {
        CHECK.script("the block's number in the list, from 0, for all sites and the desk", """
                arms 1 1 0 0 2 1 = done
                site 0 = 1
                site 9 = 2
                kits 0 0 0 20 = 20
                kits 0 1 20 20 = 20
                kits 9 0 40 20 = 20
                kits 9 1 60 20 = 20
                reserve 0 0 = 0
                reserve 9 0 = 1
                allot 0 0 0 = 1
                report 0 = 0
                reserve 0 0 = 3
                report 9 = 0
                reserve 9 0 = 4
                allot 0 0 1 = 21
                allot 0 0 2 = 22
                blocks 0 = 6
                report 0 = 0
                reserve 0 0 = 6
                """);
        CHECK.script("each stratum has its own list", Starts.TWO_ARMS + """
                reserve 0 {0 1 2} = 0
                reserve 0 7 = 0
                blocks {0 1 2 7} = 1
                blocks {3..6} = 0
                """);
    }

    private static void kitsOfTheEntries() {
        CHECK.script("in the order of its entries, each has the least free kit of its arm", TWO_SITES + """
                kits 0 1 20 3 = 3
                kits 0 0 10 2 = 2
                kits 0 1 5 1 = 4
                kits 1 0 0 5 = 5
                kits 1 1 900 5 = 5
                reserve 0 1 = 0
                stock 0 0 = 0
                stock 0 1 = 6
                stock 1 0 = 10
                stock 1 1 = 0
                offline 0 1 {0..5} = {10 5 20 21 11 22}
                stock 0 1 = 0
                stock 0 2 = 6
                """);
        CHECK.script("kits that come later do not change what is marked", Starts.TWO_ARMS + """
                site 1 = 2
                kits 1 0 101 2 = 2
                kits 1 1 201 1 = 1
                reserve 1 0 = 0
                kits 1 0 100 1 = 1
                kits 1 1 200 1 = 1
                offline 1 0 {0 1 2} = {201 101 102}
                """);
        CHECK.script("the open block stays open", Starts.TWO_ARMS + """
                allot 0 0 0 = 50
                reserve 0 0 = 1
                offline 0 0 1 = 51
                allot 0 0 2 = 2
                offline 0 0 {3 4} = {0 1}
                allot 0 0 5 = 3
                """);
    }

    private static void held() {
        CHECK.script("HELD, be it that all its entries went", Starts.TWO_ARMS + """
                reserve 0 0 = 0
                reserve 0 0 = HELD
                offline 0 0 {0 1} = {50 0}
                reserve 0 0 = HELD
                offline 0 0 2 = 1
                offline 0 0 3 = NO_BLOCK
                reserve 0 0 = HELD
                blocks 0 = 1
                reserve 0 1 = 0
                report 0 = 3
                reserve 0 0 = 1
                reserve 0 0 = HELD
                """);
        CHECK.script("a reserve of another site or stratum is none", Starts.TWO_ARMS + """
                site 1 = 2
                kits 1 0 100 5 = 5
                kits 1 1 200 5 = 5
                reserve 0 0 = 0
                reserve 1 0 = 1
                reserve 0 7 = 0
                reserve 1 7 = 1
                reserve {0 1} {0 7} = HELD
                """);
    }

    private static void noKit() {
        CHECK.script("NO_KIT when there are less free kits of some arm than entries", TWO_SITES + """
                reserve 0 1 = NO_KIT
                kits 0 0 10 2 = 2
                reserve 0 1 = NO_KIT
                kits 0 1 20 3 = 3
                kits 1 0 100 9 = 9
                kits 1 1 200 12 = 12
                reserve 0 {0..7} = NO_KIT
                blocks {0..7} = 0
                stock 0 1 = 0
                kits 0 1 30 1 = 4
                reserve 0 1 = 0
                reserve 0 {0 2} = NO_KIT
                """);
        CHECK.script("one kit too few of the first arm", TWO_SITES + """
                kits 0 0 10 1 = 1
                kits 0 1 20 9 = 9
                reserve 0 1 = NO_KIT
                stock 0 1 = 0
                kits 0 0 11 1 = 2
                reserve 0 1 = 0
                stock 0 0 = 5
                """);
        CHECK.script("one kit too few of the last arm", """
                arms 1 1 1 1 4 99 = done
                site 0 = 1
                kits 0 0 0 1 = 1
                kits 0 1 1 1 = 1
                kits 0 2 2 1 = 1
                reserve 0 {0..7} = NO_KIT
                stock 0 1 = 0
                kits 0 3 3 1 = 1
                reserve 0 0 = 0
                stock 0 {0 1} = {0 4}
                offline 0 0 {0..3} = {0 2 1 3}
                """);
        CHECK.script("kits that are marked or used are not free", Starts.TWO_ARMS + """
                site 1 = 2
                kits 1 0 100 4 = 4
                kits 1 1 200 2 = 2
                allot 1 0 0 = 200
                reserve 1 0 = 1
                reserve 1 1 = NO_KIT
                kits 1 1 202 1 = 1
                reserve 1 1 = 0
                stock 1 {0 1 2} = {0 6 1}
                """);
    }

    private static void largestBlock() {
        CHECK.script("a block of 24 with kits for 23, and for 24", """
                arms 3 3 3 3 24 0 = done
                site 0 = 1
                kits 0 0 0 6 = 6
                kits 0 1 6 6 = 6
                kits 0 2 12 6 = 6
                kits 0 3 994 5 = 5
                reserve 0 0 = NO_KIT
                kits 0 3 999 1 = 6
                reserve 0 0 = 0
                stock 0 {0 1 2} = {0 24 0}
                offline 0 0 {0..11} = {12 6 7 0 13 14 8 9 10 994 1 15}
                offline 0 0 {12..23} = {11 995 996 997 2 998 999 3 4 16 5 17}
                offline 0 0 24 = NO_BLOCK
                reserve 0 0 = HELD
                report 0 = 24
                reserve 0 0 = NO_KIT
                """);
    }

    private static void codes() {
        CHECK.script("OPENED, though kits and no reserve are there", Starts.TWO_ARMS + """
                open 0 1 = 1
                reserve 0 {0..7} = OPENED
                """);
        CHECK.script("CLOSED", Starts.TWO_ARMS + """
                reserve 0 0 = 0
                close 0 = 3
                reserve 0 {0..7} = CLOSED
                """);
        CHECK.script("DOWN, and all is as it was before", Starts.TWO_ARMS + """
                tear = done
                reserve 0 0 = torn
                reserve 0 {0..7} = DOWN
                blocks 0 = 0
                stock 0 {0 1} = {15 0}
                mount = 4
                stock 0 {0 1} = {15 0}
                offline 0 0 0 = NO_BLOCK
                reserve 0 0 = 0
                """);
    }

    private static void orderOfCodes() {
        String start = Starts.TWO_ARMS + """
                site 1 = 2
                kits 1 0 100 2 = 2
                kits 1 1 200 1 = 1
                reserve 1 0 = 0
                reserve 1 0 = HELD
                reserve 1 1 = NO_KIT
                """;
        String down = "tear = done\nsite 2 = torn\nreserve 1 {0 1} = DOWN\n";
        CHECK.script("HELD before NO_KIT, DOWN before both", start + down);
        CHECK.script("OPENED before HELD and NO_KIT, DOWN before it",
                start + "open 0 1 = 1\nreserve 1 {0 1} = OPENED\n" + down);
        CHECK.script("CLOSED before NO_KIT, DOWN before it", start + "close 1 = 3\nreserve 1 {0 1} = CLOSED\n" + down);
        CHECK.script("OPENED before CLOSED", start + "close 1 = 3\nopen 0 1 = 1\nreserve 1 {0 1} = OPENED\n" + down);
        CHECK.script("a code, and not DOWN, though a tear waits", start + """
                tear = done
                reserve 1 0 = HELD
                reserve 1 1 = NO_KIT
                reserve 0 1 = torn
                """);
    }

    private static void records() {
        CHECK.script("a record each", Starts.TWO_ARMS + """
                reserve 0 {0 1} = 0
                reserve 0 1 = HELD
                """ + Starts.records(6));
    }
}
