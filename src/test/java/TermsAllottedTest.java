/** Terms, what ALLOTTED, RESERVED, REPORTED, CLOSED and OPENED mean. */
public final class TermsAllottedTest {
    private static final Check CHECK = new Check("terms, allotted to opened");

    public static void main(String[] args) {
        allottedAtTheDesk();
        reserved();
        allottedFromAReserve();
        reported();
        closed();
        opened();
        CHECK.end();
    }

    private static void allottedAtTheDesk() {
        CHECK.script("the next entry, the least free kit of that arm: it is used, and the person known", """
                arms 2 1 0 0 3 -7046029254386353131 = done
                site 0 = 1
                kits 0 0 30 2 = 2
                kits 0 1 20 2 = 2
                kits 0 0 10 1 = 3
                kits 0 1 40 1 = 3
                key {0 1} 0 5 = {1 2}
                arm 0 5 = NONE
                allot 0 0 5 = 20
                arm 0 5 = 1
                allot 0 0 {6 7} = {10 30}
                allot 0 0 8 = 21
                blocks 0 = 2
                stock 0 {0..2} = {2 0 4}
                open 0 1 = 1
                count 0 {0 1} = 2
                used {20 10 30 21} = {5 6 7 8}
                used {31 40} = NONE
                """);
    }

    private static void reserved() {
        CHECK.script("in the order of the entries, each has the least free kit of its arm, which is marked", """
                arms 2 1 1 0 8 12345 = done
                site 0 = 1
                kits 0 0 60 2 = 2
                kits 0 1 7 1 = 1
                kits 0 2 33 1 = 1
                kits 0 0 5 2 = 4
                kits 0 2 3 2 = 3
                kits 0 1 90 2 = 3
                kits 0 0 99 1 = 5
                reserve 0 2 = 0
                stock 0 {0..2} = {3 8 0}
                blocks 2 = 1
                kits 0 0 0 1 = 2
                offline 0 2 {0..7} = {5 3 6 4 60 61 7 90}
                stock 0 {0..2} = {4 0 8}
                """);
    }

    private static void allottedFromAReserve() {
        CHECK.script("its next entry, that entry's kit is used, the person not known yet", Starts.TWO_ARMS + """
                reserve 0 1 = 0
                key {0 1} 0 4 = {1 2}
                offline 0 1 4 = 0
                arm 0 4 = NONE
                stock 0 {0..2} = {12 2 1}
                open 0 1 = 1
                arm 0 4 = NONE
                used {0 50 1} = {4 NONE NONE}
                count 1 {0 1} = 0
                offline 0 1 {5 6 7} = {50 1 NO_BLOCK}
                used {0 50 1} = {4 5 6}
                arm 0 {4 5 6} = NONE
                count 1 {0 1} = 0
                """);
    }

    private static void reported() {
        CHECK.script("all who were allotted from the site's reserves are known", Starts.TWO_ARMS + """
                reserve 0 {0 1 7} = 0
                offline 0 0 {0 1} = {50 0}
                offline 0 1 2 = 2
                report 0 = 3
                key 0 0 {0 1 2} = 1
                key 1 0 {0 1 2} = 2
                arm 0 {0 1 2} = {1 0 0}
                open 0 1 = 1
                count 0 {0 1} = 1
                count 1 {0 1} = {1 0}
                """);
        CHECK.script("the reserves are gone, kits that are marked still are free", Starts.TWO_ARMS + """
                reserve 0 {0 1 7} = 0
                offline 0 0 {0 1} = {50 0}
                stock 0 {0..2} = {6 7 2}
                report 0 = 2
                stock 0 {0..2} = {13 0 2}
                offline 0 {0 1 7} 2 = NO_BLOCK
                close 0 = 0
                """);
    }

    private static void closed() {
        CHECK.script("the reserves are gone, those not known stay so for ever, marked kits too", Starts.TWO_ARMS + """
                reserve 0 {0 1} = 0
                offline 0 0 {0 1} = {50 0}
                allot 0 7 2 = 52
                key 0 0 {0 1 2} = 1
                key 1 0 {0 1 2} = 2
                close 0 = 4
                stock 0 {0..2} = {8 4 3}
                report 0 = CLOSED
                arm 0 {0 1 2} = {NONE NONE 1}
                open 0 1 = 1
                arm 0 {0 1 2} = {NONE NONE 1}
                count 0 {0 1} = 0
                count 7 {0 1} = {0 1}
                used {50 0 52} = {0 1 2}
                stock 0 {0..2} = {8 4 3}
                """);
        CHECK.script("other sites' reserves and people are as they were", Starts.TWO_ARMS + """
                site 1 = 2
                kits 1 0 100 4 = 4
                kits 1 1 200 4 = 4
                reserve {0 1} 0 = {0 1}
                offline 1 0 0 = 200
                close 0 = 3
                reserve 1 0 = HELD
                offline 1 0 1 = 100
                report 1 = 2
                stock 1 {0..2} = {6 0 2}
                """);
    }

    private static void opened() {
        CHECK.script("when two holders say so: then arms are told", Starts.TWO_ARMS + """
                allot 0 0 {0 1} = {50 0}
                arm 0 {0 1} = NONE
                count 0 {0 1} = NONE
                spread 0 = NONE
                entry 0 0 = NONE
                used 50 = NONE
                open 0 0 = 0
                open 4 4 = 0
                arm 0 {0 1} = NONE
                entry 0 0 = NONE
                open 4 0 = 1
                arm 0 {0 1} = {1 0}
                count 0 {0 1} = 1
                spread 0 = 1
                entry 0 {0 1 2 3} = {1 0 0 NONE}
                used {50 0 1} = {0 1 NONE}
                open {0..4} 0 = 0
                """);
        CHECK.script("a person's own two keys tell that one's arm alone", Starts.TWO_ARMS + """
                allot 0 0 {0 1} = {50 0}
                key 2 0 0 = 1
                key 2 0 0 = 1
                arm 0 0 = NONE
                key 3 0 0 = 2
                arm 0 {0 1} = {1 NONE}
                used 50 = NONE
                count 0 1 = NONE
                """);
    }
}
