/** Promise 8: report. */
public final class Promise08ReportTest {
    private static final Check CHECK = new Check("promise 8, report");

    public static void main(String[] args) {
        exceptions();
        howManyAreKnown();
        reservesAreGone();
        otherSites();
        onceItIsOpened();
        codes();
        records();
        CHECK.end();
    }

    private static void exceptions() {
        CHECK.script("there is no such site", """
                report {MIN -1 0 9 10 MAX} = Index
                site 4 = 1
                report {MIN -1 0 3 5 9 10 MAX} = Index
                report 4 = 0
                """);
        CHECK.script("exceptions come before codes", "site 4 = 1\nclose 4 = 0\nreport 5 = Index\n"
                + Starts.GOES_DOWN + "report {-1 5 10} = Index\n");
    }

    private static void howManyAreKnown() {
        CHECK.script("nobody, as long as nobody was allotted from a reserve", Starts.TWO_ARMS + """
                report 0 = 0
                allot 0 0 0 = 50
                report 0 = 0
                reserve 0 0 = 1
                report 0 = 0
                """);
        CHECK.script("all who were allotted from the site's reserves, of all strata", Starts.TWO_ARMS + """
                reserve 0 0 = 0
                reserve 0 1 = 0
                reserve 0 7 = 0
                offline 0 0 {0 1 2} = {50 0 1}
                offline 0 1 99 = 2
                offline 0 7 98 = 52
                allot 0 0 50 = 53
                report 0 = 5
                report 0 = 0
                open 0 1 = 1
                arm 0 {0 1 2 99 98 50} = {1 0 0 0 1 1}
                count 0 {0 1} = {2 2}
                count 1 {0 1} = {1 0}
                count 7 {0 1} = {0 1}
                """);
        CHECK.script("those who were reported before do not count again", Starts.TWO_ARMS + """
                reserve 0 0 = 0
                offline 0 0 0 = 50
                report 0 = 1
                reserve 0 0 = 1
                offline 0 0 {1 2} = {51 0}
                report 0 = 2
                reserve 0 0 = 2
                report 0 = 0
                """);
    }

    private static void reservesAreGone() {
        CHECK.script("the reserves are gone, kits that are marked still are free", Starts.TWO_ARMS + """
                reserve 0 0 = 0
                reserve 0 1 = 0
                offline 0 0 0 = 50
                stock 0 {0 1 2} = {9 5 1}
                report 0 = 1
                stock 0 {0 1 2} = {14 0 1}
                offline 0 {0 1} 1 = NO_BLOCK
                reserve 0 0 = 1
                reserve 0 1 = 1
                blocks {0 1} = 2
                offline 0 0 {1 2 3} = {51 0 1}
                offline 0 1 {4 5 6} = {52 2 3}
                """);
        CHECK.script("the open block stays open", Starts.TWO_ARMS + """
                allot 0 0 0 = 50
                reserve 0 0 = 1
                report 0 = 0
                allot 0 0 {1 2} = {0 1}
                blocks 0 = 2
                allot 0 0 3 = 2
                blocks 0 = 3
                """);
    }

    private static void otherSites() {
        CHECK.script("other sites are as they were", Starts.TWO_ARMS + """
                site 1 = 2
                kits 1 0 100 2 = 2
                kits 1 1 200 1 = 1
                reserve 0 0 = 0
                reserve 1 0 = 1
                offline 1 0 0 = 200
                report 0 = 0
                stock 1 {0 1 2} = {0 2 1}
                offline 1 0 1 = 100
                reserve 1 0 = HELD
                key {0 1} 1 0 = {1 2}
                arm 1 0 = NONE
                report 1 = 2
                arm 1 0 = 1
                stock 1 {0 1 2} = {1 0 2}
                """);
    }

    private static void onceItIsOpened() {
        CHECK.script("once it is opened too", Starts.TWO_ARMS + """
                reserve 0 0 = 0
                open 0 1 = 1
                offline 0 0 {0 1} = {50 0}
                count 0 {0 1} = 0
                report 0 = 2
                count 0 {0 1} = 1
                stock 0 {0 1 2} = {13 0 2}
                """);
    }

    private static void codes() {
        CHECK.script("CLOSED, and DOWN before it", Starts.TWO_ARMS + """
                site 1 = 2
                reserve 0 0 = 0
                offline 0 0 0 = 50
                close 0 = 2
                report 0 = CLOSED
                tear = done
                report 0 = CLOSED
                report 1 = torn
                report {0 1} = DOWN
                mount = 8
                report 0 = CLOSED
                report 1 = 0
                """);
        CHECK.script("DOWN, and all is as it was before", Starts.TWO_ARMS + """
                reserve 0 0 = 0
                offline 0 0 0 = 50
                tear = done
                report 0 = torn
                report 0 = DOWN
                stock 0 1 = 2
                mount = 6
                stock 0 1 = 2
                reserve 0 0 = HELD
                report 0 = 1
                """);
    }

    private static void records() {
        CHECK.script("a record each, also when it answers 0", "site 0 = 1\nreport 0 = 0\nreport 0 = 0\n"
                + "report 1 = Index\n" + Starts.records(3));
    }
}
