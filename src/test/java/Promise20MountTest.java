/** Promise 20: mount. */
public final class Promise20MountTest {
    private static final Check CHECK = new Check("promise 20, mount");

    public static void main(String[] args) {
        CHECK.script("IllegalStateException when it is not down", """
                mount = State
                site 0 = 1
                mount = State
                tear = done
                mount = State
                site 1 = torn
                mount = 1
                mount = State
                mount = State
                """);
        CHECK.script("no record but the torn one", "tear = done\nsite 0 = torn\nmount = 0");
        CHECK.script("how many records there are, one for each of the ten calls", """
                arms 2 1 0 0 3 -7046029254386353131 = done
                site 0 = 1
                kits 0 0 0 10 = 10
                kits 0 1 50 5 = 5
                allot 0 0 0 = 50
                reserve 0 0 = 1
                offline 0 0 1 = 51
                report 0 = 1
                key 0 0 0 = 1
                open 0 1 = 1
                close 0 = 0
                tear = done
                site 1 = torn
                mount = 11
                site 1 = 2
                tear = done
                site 2 = torn
                mount = 12
                """);
        eachCallOnItsOwn();
        CHECK.script("the desk goes on as it was before", Starts.TWO_ARMS + """
                allot 0 0 0 = 50
                reserve 0 1 = 0
                offline 0 1 1 = 0
                key 0 0 0 = 1
                tear = done
                report 0 = torn
                mount = 8
                allot 0 0 2 = 2
                offline 0 1 3 = 51
                reserve 0 1 = HELD
                key 1 0 0 = 2
                arm 0 0 = 1
                report 0 = 2
                tear = done
                close 0 = torn
                mount = 12
                close 0 = 0
                """);
        CHECK.end();
    }

    /** The number behind each prefix of a run, so that each call is seen to write just one. */
    private static void eachCallOnItsOwn() {
        String[] run = {"arms 2 1 0 0 3 -7046029254386353131 = done", "site 0 = 1", "kits 0 0 0 10 = 10",
            "kits 0 1 50 5 = 5", "allot 0 0 0 = 50", "reserve 0 0 = 1", "offline 0 0 1 = 51", "report 0 = 1",
            "report 0 = 0", "key 0 0 0 = 1", "key 0 0 0 = 1", "close 0 = 0", "site 1 = 2", "open 0 1 = 1"};
        String start = "";
        for (int number = 0; number < run.length; number++) {
            CHECK.script("behind " + number + " records",
                    start + "tear = done\nsite 9 = torn\nmount = " + number + "\n");
            start += run[number] + "\n";
        }
        CHECK.script("behind all records", start + "tear = done\nsite 9 = torn\nmount = " + run.length + "\n");
    }
}
