/** Promise 9: close. */
public final class Promise09CloseTest {
    private static final Check CHECK = new Check("promise 9, close");

    public static void main(String[] args) {
        exceptions();
        entriesNobodyHad();
        closedForEver();
        notKnownForEver();
        otherSites();
        codes();
        records();
        CHECK.end();
    }

    private static void exceptions() {
        CHECK.script("there is no such site", """
                close {MIN -1 0 9 10 MAX} = Index
                site 4 = 1
                close {MIN -1 0 3 5 9 10 MAX} = Index
                close 4 = 0
                """);
        CHECK.script("exceptions come before codes", "site 4 = 1\nclose 4 = 0\nclose 5 = Index\n"
                + Starts.GOES_DOWN + "close {-1 5 10} = Index\n");
    }

    private static void entriesNobodyHad() {
        CHECK.script("none without a reserve, be it that the open block has some", Starts.TWO_ARMS + """
                allot 0 0 0 = 50
                close 0 = 0
                """);
        CHECK.script("all of a reserve that nobody used", Starts.TWO_ARMS + "reserve 0 0 = 0\nclose 0 = 3\n");
        CHECK.script("none of a reserve whose entries all went", Starts.TWO_ARMS + """
                reserve 0 0 = 0
                offline 0 0 {0 1 2} = {50 0 1}
                close 0 = 0
                """);
        CHECK.script("of all its reserves", Starts.TWO_ARMS + """
                reserve 0 0 = 0
                reserve 0 1 = 0
                reserve 0 7 = 0
                offline 0 0 {0 1 2} = {50 0 1}
                offline 0 1 3 = 2
                close 0 = 5
                """);
        CHECK.script("none of those that were reported", Starts.TWO_ARMS + """
                reserve 0 0 = 0
                report 0 = 0
                close 0 = 0
                """);
        CHECK.script("all eight reserves", """
                arms 1 1 0 0 2 1 = done
                site 0 = 1
                kits 0 0 0 8 = 8
                kits 0 1 8 8 = 8
                reserve 0 {0..7} = 0
                close 0 = 16
                stock 0 {0 1 2} = {0 16 0}
                """);
    }

    private static void closedForEver() {
        CHECK.script("kits that are marked stay so, and nothing goes on there", Starts.TWO_ARMS + """
                reserve 0 0 = 0
                offline 0 0 0 = 50
                allot 0 1 1 = 2
                close 0 = 2
                stock 0 {0 1 2} = {11 2 2}
                site 0 = Argument
                kits 0 0 100 1 = CLOSED
                allot 0 0 2 = CLOSED
                reserve 0 1 = CLOSED
                offline 0 0 2 = CLOSED
                report 0 = CLOSED
                close 0 = CLOSED
                blocks {0 1} = 1
                key {0 1} 0 1 = {1 2}
                arm 0 1 = 0
                site 1 = 2
                stock 0 {0 1 2} = {11 2 2}
                """);
    }

    private static void notKnownForEver() {
        CHECK.script("those allotted from them who are not known stay so for ever", Starts.TWO_ARMS + """
                reserve 0 0 = 0
                offline 0 0 0 = 50
                report 0 = 1
                reserve 0 0 = 1
                offline 0 0 1 = 51
                close 0 = 2
                report 0 = CLOSED
                key {0 1} 0 0 = {1 2}
                key {0 1} 0 1 = {1 2}
                arm 0 0 = 1
                arm 0 1 = NONE
                open 0 1 = 1
                arm 0 {0 1} = {1 -1}
                count 0 {0 1} = {0 1}
                spread 0 = 2
                used {50 51 0} = {0 1 -1}
                entry 0 {0..6} = {1 0 0 1 0 0 -1}
                """);
    }

    private static void otherSites() {
        CHECK.script("other sites are as they were, and their blocks come behind", Starts.TWO_ARMS + """
                site 1 = 2
                kits 1 0 100 4 = 4
                kits 1 1 200 3 = 3
                reserve 0 0 = 0
                reserve 1 0 = 1
                offline 1 0 0 = 200
                close 0 = 3
                stock 1 {0 1 2} = {4 2 1}
                offline 1 0 1 = 100
                report 1 = 2
                reserve 1 0 = 2
                close 1 = 3
                """);
    }

    private static void codes() {
        CHECK.script("CLOSED, and DOWN before it", """
                site 0 = 1
                site 1 = 2
                close 0 = 0
                close 0 = CLOSED
                tear = done
                close 0 = CLOSED
                close 1 = torn
                close {0 1} = DOWN
                mount = 3
                close 0 = CLOSED
                close 1 = 0
                """);
        CHECK.script("DOWN, and all is as it was before", Starts.TWO_ARMS + """
                reserve 0 0 = 0
                offline 0 0 0 = 50
                tear = done
                close 0 = torn
                close 0 = DOWN
                mount = 6
                offline 0 0 1 = 0
                close 0 = 1
                """);
        CHECK.script("once it is opened too", Starts.TWO_ARMS + """
                reserve 0 0 = 0
                open 0 1 = 1
                close 0 = 3
                """);
    }

    private static void records() {
        CHECK.script("a record each", "site {0 1} = {1 2}\nclose 0 = 0\nclose 0 = CLOSED\nclose 1 = 0\n"
                + "close 2 = Index\n" + Starts.records(4));
    }
}
