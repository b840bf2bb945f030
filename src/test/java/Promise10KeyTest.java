/** Promise 10: key. */
public final class Promise10KeyTest {
    private static final Check CHECK = new Check("promise 10, key");

    public static void main(String[] args) {
        CHECK.script("there is no such holder, site, person", """
                site 3 = 1
                key {MIN -1 5 6 31 32 33 MAX} 3 0 = Index
                key 0 {MIN -1 0 2 4 9 10 MAX} 0 = Index
                key 0 3 {MIN -1 100 101 MAX} = Index
                """);
        CHECK.script("exceptions come before DOWN", "site 3 = 1\n" + Starts.GOES_DOWN + """
                key {-1 5} 3 0 = Index
                key 0 {0 10} 0 = Index
                key 0 3 {-1 100} = Index
                key {0..4} 3 {0 99} = DOWN
                """);
        CHECK.script("how many different holders gave one, up to all five", """
                site 3 = 1
                key {0..4} 3 0 = {1..5}
                key {0..4} 3 0 = 5
                key {4 2 0 1 3} 3 99 = {1..5}
                """);
        CHECK.script("the same holder again is no other one", """
                site 3 = 1
                key 2 3 0 = 1
                key 2 3 0 = 1
                key 4 3 0 = 2
                key {2 4} 3 0 = 2
                """);
        CHECK.script("for each person of each site on its own", """
                site {0 9} = {1 2}
                key 0 0 {0 1 98 99} = 1
                key 1 9 {0 1 98 99} = 1
                key 1 0 {0 99} = 2
                key 0 9 {0 99} = 2
                key 2 0 1 = 2
                """);
        CHECK.script("for one who was allotted or not, whose site is closed, when it is opened", Starts.TWO_ARMS + """
                allot 0 0 0 = 50
                key 0 0 0 = 1
                key 0 0 1 = 1
                close 0 = 0
                key 1 0 0 = 2
                key 1 0 1 = 2
                open 0 1 = 1
                key 2 0 0 = 3
                key 2 0 1 = 3
                """);
        CHECK.script("as long as there are no arms too",
                "site 0 = 1\nkey 0 0 0 = 1\narms 1 1 0 0 2 1 = done\nkey 1 0 0 = 2");
        CHECK.script("DOWN, and all is as it was before", """
                site 3 = 1
                key 0 3 0 = 1
                tear = done
                key 1 3 0 = torn
                key {0 1 2} 3 0 = DOWN
                mount = 2
                key 0 3 0 = 1
                key 2 3 0 = 2
                tear = done
                key 2 3 0 = torn
                mount = 4
                key 1 3 0 = 3
                """);
        CHECK.script("a record each, also for the same holder again",
                "site 0 = 1\nkey 1 0 0 = 1\nkey 1 0 0 = 1\nkey 5 0 0 = Index\n" + Starts.records(3));
        CHECK.end();
    }
}
