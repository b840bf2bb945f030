/** Promise 18: used. */
public final class Promise18UsedTest {
    private static final Check CHECK = new Check("promise 18, used");

    public static void main(String[] args) {
        CHECK.script("there is no such kit", """
                used {MIN -1 1000 1001 MAX} = Index
                used {0 999} = NONE
                open 0 1 = 1
                used {MIN -1 1000 1001 MAX} = Index
                used {0 999} = NONE
                """);
        CHECK.script("100 times the site and the person, from the first to the last", """
                arms 2 1 0 0 3 -7046029254386353131 = done
                site {0 9} = {1 2}
                kits 0 1 0 1 = 1
                kits 9 0 999 1 = 1
                kits 9 0 500 1 = 2
                allot 0 0 0 = 0
                allot 9 0 {0 99} = {500 999}
                used {0 500 999} = NONE
                open 0 1 = 1
                used {0 500 999} = {0 900 999}
                used {1 499 501 998} = NONE
                """);
        CHECK.script("NONE when nobody does: it has not come, is free, or is marked", Starts.TWO_ARMS + """
                reserve 0 0 = 0
                open 0 1 = 1
                used {50 0 1} = NONE
                used {9 54} = NONE
                used {10 49 55 999} = NONE
                offline 0 0 99 = 50
                used 50 = 99
                used {0 1} = NONE
                report 0 = 1
                used {50 0 1} = {99 -1 -1}
                """);
        CHECK.script("who uses it, known or not", Starts.TWO_ARMS + """
                reserve 0 0 = 0
                offline 0 0 7 = 50
                open 0 1 = 1
                used 50 = 7
                close 0 = 2
                used {50 0} = {7 -1}
                """);
        CHECK.script("keys do not tell it", Starts.TWO_ARMS + """
                allot 0 0 7 = 50
                key {0..4} 0 7 = {1..5}
                arm 0 7 = 1
                used 50 = NONE
                """);
        CHECK.script("while the desk is down too", Starts.TWO_ARMS + """
                allot 0 0 7 = 50
                reserve 0 0 = 1
                open 0 1 = 1
                tear = done
                offline 0 0 8 = torn
                used {50 51} = {7 -1}
                used 1000 = Index
                mount = 7
                used {50 51} = {7 -1}
                """);
        CHECK.end();
    }
}
