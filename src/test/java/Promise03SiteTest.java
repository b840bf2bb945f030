/** Promise 3: site. */
public final class Promise03SiteTest {
    private static final Check CHECK = new Check("promise 3, site");

    public static void main(String[] args) {
        CHECK.script("sites are 0 .. 9", """
                site {MIN -10 -1 10 11 MAX} = Index
                site 9 = 1
                site 0 = 2
                site {-1 10} = Index
                """);
        CHECK.script("how many there are, up to all ten", """
                site {0..9} = {1..10}
                site {0..9} = Argument
                site {-1 10 MAX} = Index
                """);
        CHECK.script("in any order", "site {9 8 3 5 0 1 7 2 6 4} = {1..10}");
        CHECK.script("closed ones too, and closed for ever", """
                site 4 = 1
                close 4 = 0
                site 4 = Argument
                site 5 = 2
                close 5 = 0
                site 0 = 3
                site {4 5 0} = Argument
                """);
        CHECK.script("a site that was opened has nothing yet", """
                arms 1 1 0 0 2 1 = done
                site 9 = 1
                stock 9 {0..2} = 0
                stock {0 8 10} 0 = Index
                arm 9 {0 99} = NONE
                offline 9 0 0 = NO_BLOCK
                allot 9 0 0 = NO_KIT
                reserve 9 0 = NO_KIT
                report 9 = 0
                """);
        CHECK.script("DOWN, and exceptions before it", """
                site 3 = 1
                tear = done
                site 6 = torn
                site {0 6 9} = DOWN
                site 3 = Argument
                site {-1 10 MIN MAX} = Index
                stock 6 0 = Index
                mount = 1
                stock 6 0 = Index
                site 6 = 2
                """);
        CHECK.script("a tear waits for a site that can be opened", """
                site 3 = 1
                tear = done
                site 3 = Argument
                site 10 = Index
                site 4 = torn
                mount = 1
                """);
        CHECK.script("a record each",
                "site {1 2 3} = {1 2 3}\nsite 3 = Argument\nsite 10 = Index\n" + Starts.records(3));
        CHECK.script("once it is opened too", "open 0 1 = 1\nsite 0 = 1\nsite 0 = Argument");
        CHECK.end();
    }
}
