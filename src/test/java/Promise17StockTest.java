/** Promise 17: stock. */
public final class Promise17StockTest {
    private static final Check CHECK = new Check("promise 17, stock");

    public static void main(String[] args) {
        CHECK.script("there is no such site, and IndexOutOfBoundsException before IllegalArgumentException", """
                stock {MIN -1 0 9 10 MAX} {-1 0 1 2 3} = Index
                site 4 = 1
                stock {MIN -1 0 3 5 9 10 MAX} {0 3} = Index
                stock 4 {0..2} = 0
                """);
        CHECK.script("what is none of these", Starts.TWO_ARMS + """
                stock 0 {MIN -1 3 4 MAX} = Argument
                stock 0 {0..2} = {15 0 0}
                """);
        CHECK.script("free, marked, used, of all arms together", Starts.TWO_ARMS + """
                stock 0 {0..2} = {15 0 0}
                allot 0 0 0 = 50
                stock 0 {0..2} = {14 0 1}
                reserve 0 0 = 1
                stock 0 {0..2} = {11 3 1}
                offline 0 0 1 = 51
                stock 0 {0..2} = {11 2 2}
                report 0 = 1
                stock 0 {0..2} = {13 0 2}
                reserve 0 1 = 0
                close 0 = 3
                stock 0 {0..2} = {10 3 2}
                open 0 1 = 1
                stock 0 {0..2} = {10 3 2}
                """);
        CHECK.script("each site on its own, kit 0 and kit 999 too", """
                arms 1 1 0 0 2 1 = done
                site {0 9} = {1 2}
                kits 0 0 999 1 = 1
                kits 9 0 0 1 = 1
                stock 0 {0..2} = {1 0 0}
                stock 9 {0..2} = {1 0 0}
                allot 9 0 0 = 0
                stock 0 {0..2} = {1 0 0}
                stock 9 {0..2} = {0 0 1}
                """);
        CHECK.script("as long as there are no arms too", "site 0 = 1\nstock 0 {0..2} = 0\nstock 0 3 = Argument");
        CHECK.script("while the desk is down too", Starts.TWO_ARMS + """
                allot 0 0 0 = 50
                tear = done
                reserve 0 0 = torn
                stock 0 {0..2} = {14 0 1}
                stock 0 3 = Argument
                stock 1 0 = Index
                mount = 5
                stock 0 {0..2} = {14 0 1}
                """);
        CHECK.script("all kits gone", """
                arms 1 1 0 0 2 1 = done
                site 0 = 1
                kits 0 0 0 1 = 1
                kits 0 1 1 1 = 1
                reserve 0 0 = 0
                stock 0 {0..2} = {0 2 0}
                offline 0 0 {0 1} = {0 1}
                stock 0 {0..2} = {0 0 2}
                report 0 = 2
                stock 0 {0..2} = {0 0 2}
                """);
        CHECK.end();
    }
}
