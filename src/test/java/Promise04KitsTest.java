/** Promise 4: kits. */
public final class Promise04KitsTest {
    private static final Check CHECK = new Check("promise 4, kits");
    private static final String ONE_SITE = "arms 1 1 0 0 2 1 = done\nsite 0 = 1\n";

    public static void main(String[] args) {
        noSuchSite();
        noSuchArm();
        noSuchKit();
        countOutside();
        orderOfExceptions();
        howManyFree();
        allKits();
        cameBefore();
        closedAndDown();
        armsToldAnew();
        records();
        CHECK.end();
    }

    private static void noSuchSite() {
        CHECK.script("there is no such site", """
                arms 1 1 0 0 2 1 = done
                site 3 = 1
                kits {MIN -1 0 2 4 9 10 MAX} 0 0 1 = Index
                kits 3 0 0 1 = 1
                """);
    }

    private static void noSuchArm() {
        CHECK.script("there is no such arm of two", ONE_SITE + """
                kits 0 {MIN -1 2 3 4 MAX} 0 1 = Index
                kits 0 1 0 1 = 1
                """);
        CHECK.script("there is no such arm of three", """
                arms 1 1 1 0 3 1 = done
                site 0 = 1
                kits 0 {-1 3 4} 0 1 = Index
                kits 0 2 0 1 = 1
                """);
        CHECK.script("there is no such arm of four", """
                arms 1 1 1 1 4 1 = done
                site 0 = 1
                kits 0 {-1 4} 0 1 = Index
                kits 0 3 0 1 = 1
                """);
        CHECK.script("arms are 0 .. 3 as long as there are none", """
                site 0 = 1
                kits 0 {MIN -1 4 MAX} 0 1 = Index
                kits 0 {0..3} 0 1 = State
                """);
    }

    private static void noSuchKit() {
        CHECK.script("there is no such kit", ONE_SITE + """
                kits 0 0 {MIN -1 1000 1001 MAX} 1 = Index
                kits 0 0 -1 2 = Index
                kits 0 0 {1000 MAX} {MIN -1 0} = Index
                kits 0 0 {MIN -1} {MIN 0 MAX} = Index
                kits 0 0 0 1 = 1
                kits 0 0 999 1 = 2
                """);
        CHECK.script("also for a kit above 999", ONE_SITE + """
                kits 0 0 999 {2 50 51 MAX} = Index
                kits 0 0 998 {3 51} = Index
                kits 0 0 951 {50 51} = Index
                kits 0 0 950 51 = Index
                kits 0 0 0 {1001 MAX} = Index
                kits 0 0 1 {1000 MAX} = Index
                kits 0 0 950 50 = 50
                kits 0 0 949 1 = 51
                """);
    }

    private static void countOutside() {
        CHECK.script("count is 1 .. 50", ONE_SITE + """
                kits 0 0 0 {MIN -1 0 51 52 1000} = Argument
                kits 0 0 999 {MIN -1 0} = Argument
                kits 0 0 949 51 = Argument
                kits 0 0 0 1 = 1
                kits 0 0 1 50 = 51
                kits 0 0 51 49 = 100
                """);
    }

    private static void orderOfExceptions() {
        CHECK.script("IndexOutOfBoundsException, IllegalStateException, IllegalArgumentException", """
                site 0 = 1
                kits 1 0 0 0 = Index
                kits 0 4 0 0 = Index
                kits 0 0 1000 0 = Index
                kits 0 0 990 51 = Index
                kits 0 0 0 {0 51} = State
                kits 0 3 0 1 = State
                arms 1 1 0 0 2 1 = done
                kits 1 0 0 0 = Index
                kits 0 2 0 51 = Index
                kits 0 0 -1 51 = Index
                kits 0 0 0 {0 51} = Argument
                """);
        CHECK.script("exceptions come before DOWN, CLOSED, KNOWN", ONE_SITE + """
                kits 0 0 0 5 = 5
                kits 0 0 0 51 = Argument
                kits 0 0 999 2 = Index
                close 0 = 0
                kits 0 0 0 51 = Argument
                kits 0 2 0 1 = Index
                """ + Starts.GOES_DOWN + """
                kits 0 0 0 {0 51} = Argument
                kits 0 2 0 1 = Index
                kits 1 0 0 1 = Index
                kits 0 0 1000 1 = Index
                """);
        CHECK.script("IllegalStateException comes before DOWN and CLOSED", "site 0 = 1\nclose 0 = 0\n"
                + "kits 0 0 0 1 = State\n" + Starts.GOES_DOWN + "kits 0 0 0 1 = State\n");
    }

    private static void howManyFree() {
        CHECK.script("how many free ones the site has of the arm", """
                arms 2 1 0 0 3 -7046029254386353131 = done
                site 0 = 1
                site 1 = 2
                kits 0 0 0 5 = 5
                kits 0 1 100 3 = 3
                kits 1 0 200 4 = 4
                kits 1 1 300 1 = 1
                kits 0 0 5 1 = 6
                allot 0 0 0 = 100
                kits 0 1 103 1 = 3
                reserve 0 0 = 1
                kits 0 0 6 1 = 5
                kits 0 1 104 1 = 3
                offline 0 0 1 = 101
                kits 0 1 105 1 = 4
                report 0 = 1
                kits 0 0 7 1 = 8
                open 0 1 = 1
                kits 1 0 204 1 = 5
                stock 0 0 = 12
                stock 1 0 = 6
                """);
    }

    private static void allKits() {
        CHECK.script("all of them, and none is left to come", """
                arms 1 1 0 0 2 1 = done
                site 0 = 1
                site 9 = 2
                kits 0 0 {0 50 100 150 200 250 300 350 400 450} 50 = {50 100 150 200 250 300 350 400 450 500}
                kits 9 1 {500 550 600 650 700 750 800 850 900 950} 50 = {50 100 150 200 250 300 350 400 450 500}
                stock 0 0 = 500
                stock 9 0 = 500
                kits 0 0 {0 499 500 999} 1 = KNOWN
                kits 9 1 {0 950} 50 = KNOWN
                allot 0 0 0 = 0
                allot 9 0 0 = 500
                """);
    }

    private static void cameBefore() {
        CHECK.script("KNOWN when one of them came before", ONE_SITE + """
                site 1 = 2
                kits 0 0 100 10 = 10
                kits 0 0 {99 100 109} 2 = KNOWN
                kits 0 0 {51 60 109} 50 = KNOWN
                kits 0 1 {100 109} 1 = KNOWN
                kits 1 0 {100 109} 1 = KNOWN
                kits 0 0 99 1 = 11
                kits 0 0 110 1 = 12
                kits 0 0 49 50 = 62
                kits 0 0 111 50 = 112
                stock 0 0 = 112
                stock 1 0 = 0
                """);
        CHECK.script("KNOWN when it is used, marked, or at a site that is closed", Starts.TWO_ARMS + """
                site 1 = 2
                allot 0 0 0 = 50
                reserve 0 0 = 1
                kits 1 0 {50 51 0 1} 1 = KNOWN
                close 0 = 3
                kits 1 0 {50 51 0 1 9 54} 1 = KNOWN
                kits 1 0 55 1 = 1
                """);
    }

    private static void closedAndDown() {
        CHECK.script("CLOSED before KNOWN", ONE_SITE + """
                kits 0 0 0 5 = 5
                close 0 = 0
                kits 0 0 {0 4 5} 1 = CLOSED
                """);
        CHECK.script("DOWN before CLOSED and KNOWN", ONE_SITE + """
                site 1 = 2
                kits 0 0 0 5 = 5
                close 1 = 0
                tear = done
                kits 0 0 5 5 = torn
                kits 0 0 {0 5 9} 1 = DOWN
                kits 1 0 {0 5} 1 = DOWN
                mount = 5
                kits 0 0 5 5 = 10
                """);
        CHECK.script("kits that are refused or torn may come later", ONE_SITE + """
                kits 0 0 10 1 = 1
                kits 0 0 5 6 = KNOWN
                kits 0 1 5 5 = 5
                tear = done
                kits 0 1 0 6 = KNOWN
                kits 0 1 0 5 = torn
                mount = 4
                kits 0 0 0 5 = 6
                """);
    }

    private static void armsToldAnew() {
        CHECK.script("kits keep their arm's number when arms are told anew", """
                arms 1 1 1 0 3 1 = done
                site 0 = 1
                kits 0 2 10 2 = 2
                arms 1 1 0 0 2 1 = done
                kits 0 2 20 2 = Index
                kits 0 0 10 1 = KNOWN
                stock 0 0 = 2
                arms 1 1 1 1 4 1 = done
                kits 0 2 20 2 = 4
                """);
    }

    private static void records() {
        CHECK.script("a record each", ONE_SITE + """
                kits 0 0 0 1 = 1
                kits 0 0 0 1 = KNOWN
                kits 0 0 1 0 = Argument
                kits 0 0 1 50 = 51
                """ + Starts.records(4));
    }
}
