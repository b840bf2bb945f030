/**
 * Terms, "What a call changes is written down in a RECORD before it is done": which calls write one, and
 * what comes of it when it is torn.
 */
public final class TermsRecordsTest {
    private static final Check CHECK = new Check("terms, records");
    // Nine records; a tear that waits shows whether the next call writes one.
    private static final String START = Starts.TWO_ARMS + """
            site 1 = 2
            reserve 0 0 = 0
            offline 0 0 0 = 50
            allot 0 1 1 = 2
            key 0 0 1 = 1
            """;
    private static final int RECORDS = 9;

    public static void main(String[] args) {
        oneForEach();
        arms();
        none();
        noneForAnOpenThatAnswersZero();
        downUntilMounted();
        CHECK.end();
    }

    private static void oneForEach() {
        String[] lines = {"site 2 = 3", "kits 0 0 20 3 = 10", "allot 0 1 2 = 51", "allot 0 7 2 = 51", "reserve 0 7 = 0",
            "offline 0 0 2 = 0", "report 0 = 1", "report 1 = 0", "close 0 = 2", "close 1 = 0", "key 1 0 1 = 2",
            "key 0 0 1 = 1", "open 0 1 = 1"};
        for (String line : lines) {
            String call = line.split(" = ")[0];
            CHECK.script("one record for " + call, START + line + "\ntear = done\nsite 9 = torn\n"
                    + "mount = " + (RECORDS + 1) + "\n");
            CHECK.script("torn, it is not done: " + call, START + "tear = done\n" + call + " = torn\n"
                    + "mount = " + RECORDS + "\n" + line + "\n");
        }
    }

    private static void arms() {
        CHECK.script("one record for arms", """
                arms 1 1 0 0 2 1 = done
                arms 1 1 1 0 3 1 = done
                tear = done
                site 9 = torn
                mount = 2
                """);
        CHECK.script("torn, arms are not told", """
                site 0 = 1
                tear = done
                arms 1 1 0 0 2 1 = torn
                kits 0 0 0 1 = State
                mount = 1
                kits 0 0 0 1 = State
                arms 1 1 0 0 2 1 = done
                kits 0 0 0 1 = 1
                """);
        CHECK.script("torn, the arms that were told before still count", """
                arms 2 1 1 0 8 12345 = done
                site 0 = 1
                kits 0 0 0 9 = 9
                kits 0 1 50 9 = 9
                kits 0 2 90 9 = 9
                tear = done
                arms 1 1 0 0 2 1 = torn
                mount = 5
                reserve 0 2 = 0
                offline 0 2 {0..7} = {0 90 1 91 2 3 50 51}
                """);
        CHECK.script("nothing comes of arms while the desk is down", """
                arms 2 1 1 0 8 12345 = done
                tear = done
                site 0 = torn
                arms 1 1 0 0 2 1 = nothing
                count 0 2 = NONE
                mount = 1
                count 0 2 = NONE
                """);
    }

    /** A call that throws or answers a code writes none, and so leaves the tear to the next one. */
    private static void none() {
        String[] lines = {"arms 1 1 0 0 2 1 = State", "arms 0 1 0 0 2 1 = Argument", "site 0 = Argument",
            "site 10 = Index", "kits 0 0 0 1 = KNOWN", "kits 0 0 20 51 = Argument", "kits 2 0 20 1 = Index",
            "allot 0 0 0 = KNOWN", "allot 1 0 0 = NO_KIT", "allot 0 8 0 = Index", "reserve 0 0 = HELD",
            "reserve 1 0 = NO_KIT", "reserve 2 0 = Index", "offline 0 0 1 = KNOWN", "offline 1 0 0 = NO_BLOCK",
            "offline 0 0 100 = Index", "report 2 = Index", "close 2 = Index", "key 5 0 0 = Index", "open 0 5 = Index",
            "arm 0 1 = NONE", "count 0 0 = NONE", "spread 0 = NONE", "entry 0 0 = NONE", "blocks 0 = 1", "stock 0 1 = 2",
            "used 50 = NONE", "mount = State"};
        for (String line : lines) {
            CHECK.script("no record for " + line, START + "tear = done\n" + line + "\nsite 9 = torn\n"
                    + "mount = " + RECORDS + "\n");
        }
        String[] closed = {"kits 0 0 20 1 = CLOSED", "allot 0 0 2 = CLOSED", "reserve 0 1 = CLOSED",
            "offline 0 0 2 = CLOSED", "report 0 = CLOSED", "close 0 = CLOSED"};
        for (String line : closed) {
            CHECK.script("no record for " + line, START + "close 0 = 2\ntear = done\n" + line + "\nsite 9 = torn\n"
                    + "mount = " + (RECORDS + 1) + "\n");
        }
        for (String line : new String[] {"allot 0 0 2 = OPENED", "reserve 0 1 = OPENED"}) {
            CHECK.script("no record for " + line, START + "open 0 1 = 1\ntear = done\n" + line + "\nsite 9 = torn\n"
                    + "mount = " + (RECORDS + 1) + "\n");
        }
    }

    private static void noneForAnOpenThatAnswersZero() {
        CHECK.script("none for an open that answers 0", START + """
                open {0..4} 0 = {0 1 0 0 0}
                open {0..4} 4 = 0
                tear = done
                open {0..4} {0..4} = 0
                site 9 = torn
                mount = 10
                """);
        CHECK.script("none for an open by one holder", "open 3 3 = 0\ntear = done\nopen 3 3 = 0\nsite 9 = torn\nmount = 0\n");
    }

    private static void downUntilMounted() {
        CHECK.script("the desk is down until it is mounted: all is then as it was before", START + """
                tear = done
                allot 0 1 2 = torn
                site 2 = DOWN
                kits 0 0 20 1 = DOWN
                allot 0 1 2 = DOWN
                reserve 0 7 = DOWN
                offline 0 0 2 = DOWN
                report 0 = DOWN
                close 0 = DOWN
                key 1 0 1 = DOWN
                open 0 1 = DOWN
                tear = nothing
                mount = 9
                allot 0 1 2 = 51
                offline 0 0 3 = 0
                reserve 0 7 = 0
                kits 0 0 20 1 = 6
                report 0 = 2
                key 1 0 1 = 2
                arm 0 1 = 0
                site 2 = 3
                close 0 = 0
                open 0 1 = 1
                """);
    }
}
