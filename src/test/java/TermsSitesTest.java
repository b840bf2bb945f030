/** Terms, "SITES": sites, people, kits and blocks. */
public final class TermsSitesTest {
    private static final Check CHECK = new Check("terms, sites, people, kits, blocks");

    public static void main(String[] args) {
        sites();
        people();
        kitsComeOnce();
        kitsForAnArm();
        freeMarkedUsed();
        openBlocks();
        reserves();
        blocksOneBehindTheOther();
        CHECK.end();
    }

    private static void sites() {
        CHECK.script("sites 0 .. 9 are opened, in any order", """
                site {-1 10} = Index
                site {7 0 9 3 1 2 8 4 6 5} = {1..10}
                site {0..9} = Argument
                stock {0..9} 0 = 0
                """);
        CHECK.script("one that was never opened is none", """
                site 4 = 1
                stock {0..3 5..9} 0 = Index
                report {0..3 5..9} = Index
                site 3 = 2
                stock 3 0 = 0
                stock {0..2 5..9} 0 = Index
                """);
        CHECK.script("and perhaps closed for ever", Starts.TWO_ARMS + """
                close 0 = 0
                site 0 = Argument
                close 0 = CLOSED
                tear = done
                site 1 = torn
                site 0 = Argument
                mount = 5
                close 0 = CLOSED
                report 0 = CLOSED
                arms 1 1 0 0 2 9 = done
                kits 0 0 20 1 = CLOSED
                open 0 1 = 1
                close 0 = CLOSED
                offline 0 0 0 = CLOSED
                site 1 = 2
                """);
    }

    private static void people() {
        CHECK.script("people 0 .. 99 of a site are its own", Starts.TWO_ARMS + """
                site 1 = 2
                kits 1 0 100 5 = 5
                kits 1 1 200 5 = 5
                allot 0 0 0 = 50
                allot 1 0 0 = 100
                allot 1 7 99 = 200
                allot 0 7 99 = 0
                key {0 1} 0 0 = {1 2}
                arm 0 0 = 1
                arm 1 0 = NONE
                key {0 4} 1 99 = {1 2}
                arm 1 99 = 1
                arm 0 99 = NONE
                open 2 3 = 1
                used {50 100 200 0} = {0 100 199 99}
                """);
        CHECK.script("of a site a person is one, whatever the stratum", Starts.TWO_ARMS + """
                reserve 0 1 = 0
                allot 0 0 0 = 51
                allot 0 {0..7} 0 = KNOWN
                offline 0 1 0 = KNOWN
                offline 0 1 1 = 0
                offline 0 1 1 = KNOWN
                allot 0 {0..7} 1 = KNOWN
                """);
    }

    private static void kitsComeOnce() {
        CHECK.script("kits 0 .. 999 come to a site, each once", Starts.TWO_ARMS + """
                site 1 = 2
                kits 0 {0 1} {0 9 50 54} 1 = KNOWN
                kits 1 {0 1} {0 9 50 54} 1 = KNOWN
                kits 1 0 10 40 = 40
                kits 1 0 55 50 = 90
                kits 0 0 {999 -1 1000} 1 = {11 Index Index}
                kits 1 1 950 50 = KNOWN
                kits 1 1 950 49 = 49
                """);
        CHECK.script("a kit that is marked, used, or free again came all the same", Starts.TWO_ARMS + """
                allot 0 0 0 = 50
                reserve 0 1 = 0
                kits 0 0 {0 1} 1 = KNOWN
                kits 0 1 {50 51} 1 = KNOWN
                offline 0 1 1 = 0
                report 0 = 1
                kits 0 0 {0 1} 1 = KNOWN
                kits 0 1 {50 51} 1 = KNOWN
                site 1 = 2
                close 0 = 0
                kits 1 0 {0 1 2} 1 = KNOWN
                """);
    }

    private static void kitsForAnArm() {
        CHECK.script("each for an arm", """
                arms 2 1 1 0 8 12345 = done
                site 0 = 1
                kits 0 2 0 1 = 1
                kits 0 1 1 1 = 1
                kits 0 0 2 1 = 1
                kits 0 2 3 1 = 2
                kits 0 0 4 1 = 2
                allot 0 2 {0 1 2 3} = {2 0 4 3}
                allot 0 2 4 = NO_KIT
                kits 0 0 5 3 = 3
                allot 0 2 {4 5 6} = {5 6 1}
                allot 0 2 7 = NO_KIT
                stock 0 {0..2} = {1 0 7}
                """);
    }

    private static void freeMarkedUsed() {
        CHECK.script("a kit is free, marked, or used", Starts.TWO_ARMS + """
                stock 0 {0..2} = {15 0 0}
                allot 0 0 0 = 50
                stock 0 {0..2} = {14 0 1}
                reserve 0 1 = 0
                stock 0 {0..2} = {11 3 1}
                offline 0 1 1 = 0
                stock 0 {0..2} = {11 2 2}
                report 0 = 1
                stock 0 {0..2} = {13 0 2}
                reserve 0 7 = 0
                offline 0 7 2 = 51
                close 0 = 2
                stock 0 {0..2} = {10 2 3}
                """);
    }

    private static void openBlocks() {
        CHECK.script("the desk has for each stratum an open block, or none", Starts.TWO_ARMS + """
                blocks {0..7} = 0
                allot 0 {0 1 2 7} 0 = {50 KNOWN KNOWN KNOWN}
                blocks {0 1 2 7} = {1 0 0 0}
                allot 0 1 1 = 0
                allot 0 2 2 = 1
                allot 0 7 3 = 51
                blocks {0..7} = {1 1 1 0 0 0 0 1}
                allot 0 0 {4 5} = {2 3}
                allot 0 1 {6 7} = {52 4}
                allot 0 2 {8 9} = {5 53}
                allot 0 7 {10 11} = {6 7}
                blocks {0..7} = {1 1 1 0 0 0 0 1}
                allot 0 0 12 = 54
                blocks {0..7} = {2 1 1 0 0 0 0 1}
                """);
    }

    private static void reserves() {
        CHECK.script("a site may have a reserve for each stratum, a block with a kit for each entry", """
                arms 2 1 0 0 3 -7046029254386353131 = done
                site 0 = 1
                site 1 = 2
                kits 0 0 0 16 = 16
                kits 0 1 100 8 = 8
                kits 1 0 500 16 = 16
                kits 1 1 600 8 = 8
                reserve 0 {0..7} = 0
                reserve 1 {0..7} = 1
                reserve 0 {0..7} = HELD
                stock {0 1} 0 = 0
                stock {0 1} 1 = 24
                offline 0 0 {0 1 2 3} = {100 0 1 NO_BLOCK}
                offline 0 1 {3 4 5 6} = {2 101 3 NO_BLOCK}
                offline 1 0 {0 1 2 3} = {600 500 501 NO_BLOCK}
                offline 1 1 {3 4 5 6} = {601 502 503 NO_BLOCK}
                offline 0 7 {6 7 8 9} = {107 14 15 NO_BLOCK}
                offline 1 7 {6 7 8 9} = {514 607 515 NO_BLOCK}
                stock {0 1} 1 = 15
                stock {0 1} 2 = 9
                """);
    }

    private static void blocksOneBehindTheOther() {
        CHECK.script("each block that is taken, for the desk or a reserve, is the next one that was not", """
                arms 2 1 0 0 3 -7046029254386353131 = done
                site 0 = 1
                site 1 = 2
                kits 0 0 0 10 = 10
                kits 0 1 50 5 = 5
                kits 1 0 100 10 = 10
                kits 1 1 150 5 = 5
                reserve 1 0 = 0
                allot 0 0 0 = 50
                reserve 0 0 = 2
                allot 0 0 {1 2} = {2 3}
                allot 0 0 3 = 4
                blocks 0 = 4
                report 1 = 0
                reserve 1 0 = 4
                close 1 = 3
                blocks 0 = 5
                allot 0 0 {4 5} = {5 52}
                allot 0 0 6 = 53
                blocks 0 = 6
                blocks {1..7} = 0
                open 0 1 = 1
                entry 0 {0..18} = {1 0 0 1 0 0 0 1 0 0 0 1 1 0 0 1 0 0 NONE}
                """);
        CHECK.script("a block that is given back is not taken again", Starts.TWO_ARMS + """
                reserve 0 0 = 0
                report 0 = 0
                reserve 0 0 = 1
                offline 0 0 0 = 50
                report 0 = 1
                reserve 0 0 = 2
                report 0 = 0
                allot 0 0 {1 2 3} = {0 1 51}
                blocks 0 = 4
                """);
    }
}
