/** Promise 15: entry. */
public final class Promise15EntryTest {
    private static final Check CHECK = new Check("promise 15, entry");

    public static void main(String[] args) {
        CHECK.script("there is no such stratum", Starts.TWO_ARMS + """
                entry {MIN -1 8 9 MAX} {MIN -1 0 MAX} = Index
                entry {0 7} 0 = NONE
                open 0 1 = 1
                entry {-1 8} 0 = Index
                entry {0 7} 0 = NONE
                """);
        CHECK.script("NONE as long as there are no arms", """
                entry {0..7} {MIN -1 0 1 MAX} = NONE
                open 0 1 = 1
                entry {0..7} {MIN -1 0 1 MAX} = NONE
                """);
        CHECK.script("NONE when it is not OPENED, and NONE of others than blocks that were taken", Starts.TWO_ARMS + """
                allot 0 0 0 = 50
                reserve 0 0 = 1
                entry 0 {-1 0 5 6} = NONE
                open 0 1 = 1
                entry 0 {0..5} = {1 0 0 1 0 0}
                entry 0 {MIN -3 -2 -1 6 7 8 9 MAX} = NONE
                entry {1..7} 0 = NONE
                """);
        CHECK.script("blocks of reserves that are gone were taken too", Starts.TWO_ARMS + """
                reserve 0 0 = 0
                report 0 = 0
                reserve 0 0 = 1
                report 0 = 0
                reserve 0 0 = 2
                close 0 = 3
                open 0 1 = 1
                entry 0 {0..9} = {1 0 0 1 0 0 0 1 0 -1}
                """);
        CHECK.script("a block that was looked at was not taken", """
                arms 2 1 0 0 3 -7046029254386353131 = done
                site 0 = 1
                allot 0 0 0 = NO_KIT
                reserve 0 0 = NO_KIT
                kits 0 0 0 10 = 10
                kits 0 1 50 5 = 5
                allot 0 0 {0 1 2} = {50 0 1}
                tear = done
                allot 0 0 3 = torn
                mount = 7
                open 0 1 = 1
                entry 0 {0..3} = {1 0 0 -1}
                """);
        CHECK.script("each stratum's own list, while the desk is down too", Starts.TWO_ARMS + """
                allot 0 0 0 = 50
                allot 0 2 1 = 0
                allot 0 7 2 = 51
                open 0 1 = 1
                tear = done
                site 1 = torn
                entry 0 {0..3} = {1 0 0 -1}
                entry 2 {0..3} = {0 0 1 -1}
                entry 7 {0..3} = {1 0 0 -1}
                entry {1 3 4 5 6} 0 = NONE
                entry 8 0 = Index
                """);
        CHECK.script("the last of a block of 24", """
                arms 3 3 3 3 24 0 = done
                site 0 = 1
                kits 0 0 0 6 = 6
                kits 0 1 6 6 = 6
                kits 0 2 12 6 = 6
                kits 0 3 18 6 = 6
                reserve 0 0 = 0
                open 0 1 = 1
                entry 0 {0..11} = {2 1 1 0 2 2 1 1 1 3 0 2}
                entry 0 {12..24} = {1 3 3 3 0 3 3 0 0 2 0 2 -1}
                """);
        CHECK.end();
    }
}
