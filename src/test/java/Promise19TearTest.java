/** Promise 19: tear. */
public final class Promise19TearTest {
    private static final Check CHECK = new Check("promise 19, tear");

    public static void main(String[] args) {
        nextRecord();
        onlyRecords();
        eachCall();
        whileDown();
        CHECK.end();
    }

    private static void nextRecord() {
        CHECK.script("the next record, and no other one", """
                site 0 = 1
                tear = done
                site 1 = torn
                mount = 1
                site 1 = 2
                site 2 = 3
                """);
        CHECK.script("two tears before a record are one", """
                tear = done
                tear = done
                site 1 = torn
                mount = 0
                site 1 = 1
                """);
        CHECK.script("again and again", """
                tear = done
                site 1 = torn
                mount = 0
                tear = done
                site 1 = torn
                mount = 0
                site 1 = 1
                tear = done
                key 0 1 0 = torn
                mount = 1
                """);
        CHECK.script("the desk is not down before the next record", "tear = done\nmount = State\nblocks 0 = 0");
    }

    /** A tear waits through all calls that write no record. */
    private static void onlyRecords() {
        CHECK.script("calls that throw, answer a code, or only read write no record", Starts.TWO_ARMS + """
                site 1 = 2
                reserve 0 0 = 0
                offline 0 0 {0 1 2} = {50 0 1}
                close 1 = 0
                tear = done
                arms 0 1 0 0 2 1 = Argument
                arms 1 1 0 0 2 1 = State
                site 0 = Argument
                site 10 = Index
                kits 0 0 0 1 = KNOWN
                kits 1 0 20 1 = CLOSED
                kits 0 0 20 0 = Argument
                kits 0 2 20 1 = Index
                allot 0 0 0 = KNOWN
                allot 1 0 0 = CLOSED
                allot 0 8 0 = Index
                reserve 0 0 = HELD
                reserve 1 0 = CLOSED
                reserve 0 8 = Index
                offline 0 0 0 = KNOWN
                offline 0 0 3 = NO_BLOCK
                offline 1 0 0 = CLOSED
                offline 0 0 100 = Index
                report 1 = CLOSED
                report 2 = Index
                close 1 = CLOSED
                close 2 = Index
                key 5 0 0 = Index
                open 1 1 = 0
                open 5 0 = Index
                arm 0 0 = NONE
                arm 2 0 = Index
                count 0 0 = NONE
                count 8 0 = Index
                spread 0 = NONE
                spread 8 = Index
                entry 0 0 = NONE
                entry 8 0 = Index
                blocks 0 = 1
                blocks 8 = Index
                stock 0 0 = 12
                stock 0 3 = Argument
                used 0 = NONE
                used 1000 = Index
                mount = State
                key 0 0 0 = torn
                mount = 10
                """);
        CHECK.script("nor do they once it is opened", Starts.TWO_ARMS + """
                open 0 1 = 1
                tear = done
                open 0 1 = 0
                allot 0 0 0 = OPENED
                reserve 0 0 = OPENED
                count 0 0 = 0
                entry 0 0 = NONE
                report 0 = torn
                mount = 5
                """);
        CHECK.script("nor does a call that lacks kits", """
                arms 1 1 0 0 2 1 = done
                site 0 = 1
                tear = done
                allot 0 0 0 = NO_KIT
                reserve 0 0 = NO_KIT
                kits 0 0 0 1 = torn
                mount = 2
                """);
    }

    /** Each of the ten that write records: it is not done, the desk is down, and all is then as it was before. */
    private static void eachCall() {
        String start = Starts.TWO_ARMS + """
                site 1 = 2
                reserve 0 0 = 0
                offline 0 0 0 = 50
                allot 0 1 1 = 2
                key 0 0 1 = 1
                """;
        String[] calls = {"site 2", "kits 0 0 20 3", "kits 0 1 60 1", "allot 0 0 2", "allot 0 1 2", "allot 0 7 2",
            "reserve 0 1", "reserve 0 7", "offline 0 0 2", "report 0", "report 1", "close 0", "close 1", "key 0 0 1",
            "key 1 0 1", "key 4 1 99", "open 0 1"};
        for (String call : calls) {
            CHECK.script("torn " + call, start + "tear = done\n" + call + " = torn\n" + call + " = DOWN\n"
                    + "mount = 9\nmount = State\nkey 3 1 0 = 1\n");
        }
        CHECK.script("torn arms", """
                arms 2 1 1 0 8 12345 = done
                site 0 = 1
                tear = done
                arms 1 1 0 0 2 1 = torn
                arms 1 1 0 0 2 1 = nothing
                site 1 = DOWN
                mount = 2
                mount = State
                count 0 2 = NONE
                """);
    }

    private static void whileDown() {
        CHECK.script("nothing, while the desk is down", """
                tear = done
                site 0 = torn
                tear = nothing
                tear = nothing
                mount = 0
                site 0 = 1
                key 0 0 0 = 1
                """);
        CHECK.script("calls are DOWN, or throw, and change nothing", Starts.TWO_ARMS + """
                reserve 0 0 = 0
                offline 0 0 0 = 50
                tear = done
                allot 0 1 1 = torn
                arms 1 1 0 0 2 1 = State
                site 1 = DOWN
                kits 0 0 20 1 = DOWN
                allot 0 1 1 = DOWN
                reserve 0 1 = DOWN
                offline 0 0 1 = DOWN
                report 0 = DOWN
                close 0 = DOWN
                key 0 0 0 = DOWN
                open 0 1 = DOWN
                tear = nothing
                arm 0 0 = NONE
                count 0 0 = NONE
                spread 0 = NONE
                entry 0 0 = NONE
                blocks {0 1} = {1 0}
                stock 0 {0..2} = {12 2 1}
                used 50 = NONE
                mount = 6
                """);
    }
}
