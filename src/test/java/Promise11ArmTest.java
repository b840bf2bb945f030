/** Promise 11: arm. */
public final class Promise11ArmTest {
    private static final Check CHECK = new Check("promise 11, arm");

    public static void main(String[] args) {
        CHECK.script("there is no such site, person", """
                site 3 = 1
                arm {MIN -1 0 2 4 9 10 MAX} 0 = Index
                arm 3 {MIN -1 100 101 MAX} = Index
                arm 3 {0 99} = NONE
                open 0 1 = 1
                arm {-1 0 10} 0 = Index
                arm 3 {-1 100} = Index
                """);
        CHECK.script("two holders gave a key: one is too few, and the same one twice", Starts.TWO_ARMS + """
                allot 0 0 {0 1} = {50 0}
                arm 0 0 = NONE
                key 3 0 0 = 1
                arm 0 0 = NONE
                key 3 0 0 = 1
                arm 0 0 = NONE
                key 0 0 0 = 2
                arm 0 0 = 1
                arm 0 1 = NONE
                key 1 0 0 = 3
                arm 0 0 = 1
                """);
        CHECK.script("keys may come before the person does", Starts.TWO_ARMS + """
                key {0 4} 0 99 = {1 2}
                arm 0 99 = NONE
                allot 0 0 0 = 50
                arm 0 99 = NONE
                allot 0 0 99 = 0
                arm 0 99 = 0
                """);
        CHECK.script("keys for the same person of another site do not count", Starts.TWO_ARMS + """
                site 1 = 2
                allot 0 0 0 = 50
                key {0 1} 1 0 = {1 2}
                key {0 1} 0 1 = {1 2}
                arm 0 {0 1} = NONE
                arm 1 0 = NONE
                """);
        CHECK.script("if it is OPENED, of all who are known, and NONE of others", Starts.TWO_ARMS + """
                allot 0 0 {0 99} = {50 0}
                reserve 0 0 = 1
                offline 0 0 1 = 51
                arm 0 {0 1 2 99} = NONE
                open 0 1 = 1
                arm 0 {0 1 2 99} = {1 -1 -1 0}
                offline 0 0 2 = 1
                arm 0 2 = NONE
                report 0 = 2
                arm 0 {0 1 2 99 98} = {1 1 0 0 -1}
                """);
        CHECK.script("NONE of a person who is not known, with keys too", Starts.TWO_ARMS + """
                reserve 0 0 = 0
                offline 0 0 {0 1} = {50 0}
                key {0..4} 0 0 = {1..5}
                arm 0 0 = NONE
                report 0 = 2
                arm 0 0 = 1
                arm 0 1 = NONE
                """);
        CHECK.script("the last of four arms", """
                arms 1 1 1 1 4 99 = done
                site 9 = 1
                kits 9 0 0 1 = 1
                kits 9 1 1 1 = 1
                kits 9 2 2 1 = 1
                kits 9 3 3 1 = 1
                allot 9 7 {0 1 98 99} = {3 2 1 0}
                open 0 1 = 1
                arm 9 {0 1 98 99} = {3 2 1 0}
                """);
        CHECK.script("as it was, while the desk is down or the site is closed", Starts.TWO_ARMS + """
                allot 0 0 0 = 50
                key {0 1} 0 0 = {1 2}
                key 0 0 1 = 1
                close 0 = 0
                arm 0 0 = 1
                tear = done
                key 1 0 1 = torn
                arm 0 {0 1} = {1 -1}
                arm 1 0 = Index
                arm 0 100 = Index
                mount = 9
                arm 0 {0 1} = {1 -1}
                """);
        CHECK.end();
    }
}
