/** Promise 13: count. */
public final class Promise13CountTest {
    private static final Check CHECK = new Check("promise 13, count");

    public static void main(String[] args) {
        CHECK.script("there is no such stratum, arm of two", Starts.TWO_ARMS + """
                count {MIN -1 8 9 MAX} 0 = Index
                count 0 {MIN -1 2 3 4 MAX} = Index
                count {0..7} {0 1} = NONE
                open 0 1 = 1
                count {-1 8} 0 = Index
                count 0 {-1 2 3} = Index
                count {0..7} {0 1} = 0
                """);
        CHECK.script("there is no such arm of three", Starts.THREE_ARMS + "count 0 {-1 3 4} = Index\ncount 0 2 = NONE");
        CHECK.script("there is no such arm of four",
                "arms 1 1 1 1 4 1 = done\ncount 0 {-1 4} = Index\ncount 0 3 = NONE");
        CHECK.script("there are no arms, but IndexOutOfBoundsException before, both before NONE", """
                count {0..7} {0..3} = State
                count {-1 8} 0 = Index
                count 0 {-1 4} = Index
                open 0 1 = 1
                count 0 3 = State
                count 8 0 = Index
                count 0 4 = Index
                tear = done
                site 0 = torn
                count 0 0 = State
                """);
        CHECK.script("NONE when it is not OPENED, then how many are known, each stratum and arm on its own",
                Starts.THREE_ARMS + """
                allot 0 2 {0..4} = {0 90 1 91 2}
                allot 0 7 5 = 50
                count 2 {0..2} = NONE
                open 0 1 = 1
                count 2 {0..2} = {3 0 2}
                count 7 {0..2} = {0 1 0}
                count {0 1 3 4 5 6} {0..2} = 0
                """);
        CHECK.script("people of all sites", Starts.TWO_ARMS + """
                site 9 = 2
                kits 9 0 100 5 = 5
                allot 0 0 0 = 50
                allot 9 0 {0 99} = {100 101}
                close 0 = 0
                open 0 1 = 1
                count 0 {0 1} = {2 1}
                """);
        CHECK.script("those who are not known do not count, till they are", Starts.TWO_ARMS + """
                reserve 0 0 = 0
                offline 0 0 {0 1} = {50 0}
                open 0 1 = 1
                count 0 {0 1} = 0
                tear = done
                report 0 = torn
                count 0 {0 1} = 0
                count 0 2 = Index
                mount = 8
                report 0 = 2
                count 0 {0 1} = 1
                """);
        CHECK.script("those whose site was closed before never do", Starts.TWO_ARMS + """
                reserve 0 0 = 0
                offline 0 0 {0 1} = {50 0}
                allot 0 0 2 = 51
                close 0 = 1
                open 0 1 = 1
                count 0 {0 1} = {0 1}
                """);
        CHECK.end();
    }
}
