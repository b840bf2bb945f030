/**
 * Scripts for each promise, in the document's order: ordinary inputs, the edges, wrong inputs, and
 * the order in which exceptions and codes count.
 *
 * <p>Lists that stand behind the answers: "arms 2 1 0 0 3 -7046029254386353131" gives stratum 0 the
 * entries 1 0 0, 1 0 0, 0 1 0, 0 0 1; "arms 1 2 0 0 6 -7" gives stratum 1 the entries 0 1 1 1 0 1,
 * 0 1 1 1 0 1, 0 1 0 1 1 1.
 */
public final class PromisesTest {
    private static final Check CHECK = new Check();
    private static final String TWO_ARMS = """
            arms 2 1 0 0 3 -7046029254386353131 = done
            site 0 = 1
            kits 0 0 0 10 = 10
            kits 0 1 50 5 = 5
            """;

    public static void main(String[] args) {
        newObject();
        arms();
        armsToldAgain();
        site();
        kits();
        kitsOfOldArms();
        allot();
        allotWithoutKit();
        reserve();
        offline();
        report();
        close();
        key();
        arm();
        open();
        count();
        spread();
        entry();
        blocks();
        stock();
        used();
        tear();
        tearOfEachCall();
        mount();
        CHECK.end();
    }

    private static void newObject() {
        CHECK.script("promise 1", """
                blocks 7 = 0
                entry 0 0 = -1
                used 0 = -1
                kits 0 0 0 1 = Index
                allot 0 0 0 = Index
                reserve 0 0 = Index
                offline 0 0 0 = Index
                report 0 = Index
                close 0 = Index
                key 0 0 0 = Index
                arm 0 0 = Index
                stock 0 0 = Index
                count 0 3 = State
                count 0 4 = Index
                spread 0 = State
                mount = State
                site 9 = 1
                allot 9 0 0 = State
                reserve 9 0 = State
                offline 9 0 0 = State
                kits 9 3 0 1 = State
                kits 9 4 0 1 = Index
                arm 9 0 = -1
                stock 9 0 = 0
                report 9 = 0
                open 0 1 = 1
                entry 0 0 = -1
                entry 0 2147483647 = -1
                used 0 = -1
                count 0 0 = State
                spread 7 = State
                close 9 = 0
                """);
    }

    private static void arms() {
        CHECK.script("promise 2", """
                arms 0 1 0 0 2 1 = Argument
                arms 1 0 0 0 2 1 = Argument
                arms 4 1 0 0 5 1 = Argument
                arms 1 4 0 0 5 1 = Argument
                arms -1 3 0 0 2 1 = Argument
                arms 3 -1 0 0 2 1 = Argument
                arms 1 1 -1 0 2 1 = Argument
                arms 1 1 4 0 6 1 = Argument
                arms 1 1 1 -1 2 1 = Argument
                arms 1 1 1 4 7 1 = Argument
                arms 1 1 0 1 3 1 = Argument
                arms 1 1 0 0 0 1 = Argument
                arms 1 1 0 0 -2 1 = Argument
                arms 1 1 0 0 1 1 = Argument
                arms 1 1 0 0 3 1 = Argument
                arms 1 1 0 0 26 1 = Argument
                arms 3 3 3 3 25 1 = Argument
                arms 2147483647 2147483647 2 2 2 1 = Argument
                arms 1 1 0 0 -2147483648 1 = Argument
                count 0 0 = State
                arms 1 1 0 0 2 1 = done
                arms 3 3 3 3 24 -1 = done
                arms 3 3 3 3 12 0 = done
                count 0 3 = -1
                arms 1 1 1 0 24 0 = done
                count 0 3 = Index
                count 0 2 = -1
                """);
    }

    private static void armsToldAgain() {
        CHECK.script("promise 2, again", """
                arms 1 1 1 1 8 77 = done
                site 0 = 1
                kits 0 0 0 10 = 10
                kits 0 1 50 5 = 5
                kits 0 3 100 5 = 5
                reserve 0 0 = -6
                arms 2 1 0 0 3 -7046029254386353131 = done
                stock 0 0 = 20
                reserve 0 0 = 0
                arms 1 1 0 0 2 1 = State
                arms 0 1 0 0 2 1 = Argument
                offline 0 0 0 = 50
                offline 0 0 1 = 0
                offline 0 0 2 = 1
                report 0 = 3
                arms 1 1 0 0 2 1 = State
                open 0 1 = 1
                arms 1 1 0 0 2 1 = State
                count 0 0 = 2
                """);
        CHECK.script("promise 2, once it is opened", """
                open 0 1 = 1
                arms 1 1 0 0 2 1 = done
                site 0 = 1
                kits 0 0 0 2 = 2
                allot 0 0 0 = -3
                count 0 1 = 0
                """);
    }

    private static void site() {
        CHECK.script("promise 3", """
                site -1 = Index
                site 10 = Index
                site 9 = 1
                site 0 = 2
                site 9 = Argument
                close 9 = 0
                site 9 = Argument
                site 5 = 3
                tear = done
                site 6 = -2
                site 7 = -2
                site 5 = Argument
                site 10 = Index
                stock 6 0 = Index
                mount = 4
                site 6 = 4
                """);
    }

    private static void kits() {
        CHECK.script("promise 4", """
                site 0 = 1
                site 1 = 2
                kits 0 0 0 0 = State
                arms 1 1 0 0 2 1 = done
                kits 2 0 0 1 = Index
                kits -1 0 0 1 = Index
                kits 0 2 0 1 = Index
                kits 0 -1 0 1 = Index
                kits 0 0 -1 1 = Index
                kits 0 0 1000 1 = Index
                kits 0 0 1000 0 = Index
                kits 0 0 999 2 = Index
                kits 0 0 950 51 = Index
                kits 0 0 999 2147483647 = Index
                kits 0 0 0 51 = Argument
                kits 0 0 0 0 = Argument
                kits 0 0 0 -2147483648 = Argument
                kits 0 0 0 50 = 50
                kits 0 0 999 1 = 51
                kits 0 1 100 3 = 3
                kits 1 0 200 4 = 4
                kits 0 0 49 1 = -5
                kits 1 0 49 2 = -5
                kits 1 0 99 2 = -5
                kits 1 0 50 1 = 5
                allot 0 0 0 = 0
                kits 0 0 60 1 = 51
                close 1 = 0
                kits 1 0 0 1 = -4
                kits 1 0 0 51 = Argument
                tear = done
                kits 0 0 70 1 = -2
                kits 1 0 0 1 = -2
                kits 0 0 0 1 = -2
                kits 0 2 0 1 = Index
                mount = 11
                kits 0 0 70 1 = 52
                """);
    }

    private static void kitsOfOldArms() {
        CHECK.script("promise 4, arms that went and came back", """
                arms 1 1 1 0 3 1 = done
                site 0 = 1
                kits 0 2 10 2 = 2
                arms 1 1 0 0 2 1 = done
                kits 0 2 20 2 = Index
                stock 0 0 = 2
                arms 1 1 1 1 4 1 = done
                kits 0 2 20 2 = 4
                """);
    }

    private static void allot() {
        CHECK.script("promise 5", TWO_ARMS + """
                site 1 = 2
                kits 1 0 100 5 = 5
                kits 1 1 200 5 = 5
                allot 2 0 0 = Index
                allot 0 8 0 = Index
                allot 0 -1 0 = Index
                allot 0 0 100 = Index
                allot 0 0 -1 = Index
                allot 0 0 0 = 50
                allot 0 0 0 = -5
                allot 0 3 0 = -5
                allot 1 0 0 = 100
                allot 1 0 99 = 101
                blocks 0 = 1
                allot 1 0 98 = 200
                blocks 0 = 2
                reserve 0 0 = 2
                blocks 0 = 3
                allot 0 0 1 = 2
                allot 0 0 2 = 3
                allot 0 0 3 = 4
                blocks 0 = 4
                key 0 0 0 = 1
                key 1 0 0 = 2
                arm 0 0 = 1
                offline 0 0 9 = 0
                allot 0 0 9 = -5
                close 1 = 0
                allot 1 0 0 = -4
                allot 1 0 50 = -4
                tear = done
                allot 0 0 50 = -2
                allot 0 0 0 = -2
                allot 1 0 0 = -2
                blocks 0 = 4
                mount = 19
                allot 0 0 50 = 5
                open 0 1 = 1
                allot 1 0 50 = -3
                allot 0 0 0 = -3
                allot 0 0 51 = -3
                tear = done
                close 0 = -2
                allot 0 0 51 = -2
                """);
    }

    private static void allotWithoutKit() {
        CHECK.script("promise 5, no kit", """
                arms 2 1 0 0 3 -7046029254386353131 = done
                site 0 = 1
                site 1 = 2
                kits 0 0 0 10 = 10
                allot 0 0 0 = -6
                blocks 0 = 0
                kits 1 1 50 1 = 1
                allot 0 0 0 = -6
                allot 1 0 0 = 50
                allot 1 0 1 = -6
                allot 0 0 0 = 0
                allot 0 0 1 = 1
                allot 0 0 2 = -6
                allot 0 0 2 = -6
                blocks 0 = 1
                kits 0 1 60 2 = 2
                allot 0 0 2 = 60
                blocks 0 = 2
                """);
    }

    private static void reserve() {
        CHECK.script("promise 6", """
                arms 1 2 0 0 6 -7 = done
                site 0 = 1
                site 1 = 2
                reserve 2 0 = Index
                reserve 0 8 = Index
                reserve 0 -1 = Index
                reserve 0 1 = -6
                kits 0 0 10 2 = 2
                kits 0 1 20 3 = 3
                kits 1 0 100 9 = 9
                kits 1 1 200 12 = 12
                reserve 0 1 = -6
                stock 0 1 = 0
                kits 0 1 5 1 = 4
                blocks 1 = 0
                reserve 0 1 = 0
                stock 0 0 = 0
                stock 0 1 = 6
                reserve 0 1 = -8
                reserve 0 2 = -6
                allot 0 1 0 = -6
                reserve 1 1 = 1
                reserve 1 2 = 0
                blocks 1 = 2
                offline 0 1 0 = 10
                offline 0 1 1 = 5
                offline 0 1 2 = 20
                offline 0 1 3 = 21
                offline 0 1 4 = 11
                offline 0 1 5 = 22
                offline 0 1 6 = -7
                reserve 0 1 = -8
                tear = done
                reserve 1 3 = -2
                stock 1 1 = 12
                blocks 3 = 0
                reserve 0 1 = -2
                mount = 17
                reserve 1 3 = 0
                report 0 = 6
                reserve 0 1 = -6
                close 0 = 0
                reserve 0 1 = -4
                close 1 = 18
                reserve 1 1 = -4
                open 0 1 = 1
                reserve 0 1 = -3
                tear = done
                key 0 0 0 = -2
                reserve 0 1 = -2
                """);
    }

    private static void offline() {
        CHECK.script("promise 7", TWO_ARMS + """
                site 1 = 2
                offline 2 0 0 = Index
                offline 0 8 0 = Index
                offline 0 0 100 = Index
                offline 0 -1 0 = Index
                offline 0 0 -1 = Index
                offline 0 0 0 = -7
                reserve 0 0 = 0
                offline 1 0 0 = -7
                offline 0 1 0 = -7
                offline 0 0 0 = 50
                offline 0 0 0 = -5
                offline 0 1 0 = -5
                allot 0 0 1 = 51
                offline 0 0 1 = -5
                tear = done
                offline 0 0 2 = -2
                offline 0 0 0 = -2
                mount = 8
                offline 0 0 2 = 0
                open 3 4 = 1
                offline 0 0 3 = 1
                offline 0 0 4 = -7
                offline 0 0 3 = -5
                report 0 = 3
                close 0 = 0
                offline 0 0 3 = -4
                offline 0 0 4 = -4
                tear = done
                close 1 = -2
                offline 0 0 3 = -2
                """);
    }

    private static void report() {
        CHECK.script("promise 8", TWO_ARMS + """
                site 1 = 2
                kits 1 0 100 2 = 2
                kits 1 1 200 1 = 1
                report 2 = Index
                report -1 = Index
                report 10 = Index
                report 0 = 0
                reserve 0 0 = 0
                reserve 0 1 = 0
                reserve 1 0 = 1
                offline 0 0 0 = 50
                offline 0 1 1 = 2
                offline 1 0 0 = 200
                allot 0 0 7 = 4
                tear = done
                report 0 = -2
                report 0 = -2
                mount = 15
                stock 0 1 = 4
                report 0 = 2
                stock 0 0 = 12
                stock 0 1 = 0
                stock 0 2 = 3
                stock 1 1 = 2
                report 0 = 0
                offline 0 0 3 = -7
                reserve 0 0 = 3
                open 0 1 = 1
                count 0 0 = 1
                count 0 1 = 1
                count 1 0 = 1
                report 1 = 1
                count 0 1 = 2
                arm 1 0 = 1
                close 1 = 0
                report 1 = -4
                tear = done
                report 0 = -2
                report 1 = -2
                """);
    }

    private static void close() {
        CHECK.script("promise 9", TWO_ARMS + """
                close 1 = Index
                close -1 = Index
                close 10 = Index
                reserve 0 0 = 0
                reserve 0 1 = 0
                reserve 0 2 = 0
                offline 0 0 0 = 50
                offline 0 0 1 = 0
                offline 0 0 2 = 1
                offline 0 1 3 = 2
                tear = done
                close 0 = -2
                close 0 = -2
                mount = 11
                allot 0 0 9 = 53
                close 0 = 5
                close 0 = -4
                stock 0 0 = 5
                stock 0 1 = 5
                stock 0 2 = 5
                report 0 = -4
                key 0 0 0 = 1
                key 1 0 0 = 2
                key 1 0 9 = 1
                key 2 0 9 = 2
                arm 0 0 = -1
                arm 0 9 = 1
                open 0 1 = 1
                arm 0 0 = -1
                count 0 0 = 0
                count 0 1 = 1
                used 50 = 0
                used 2 = 3
                tear = done
                key 0 0 0 = -2
                close 0 = -2
                """);
    }

    private static void key() {
        CHECK.script("promise 10", """
                site 0 = 1
                site 1 = 2
                key -1 0 0 = Index
                key 5 0 0 = Index
                key 0 2 0 = Index
                key 0 0 100 = Index
                key 0 0 -1 = Index
                key 0 0 0 = 1
                key 0 0 0 = 1
                key 4 0 0 = 2
                key 1 1 0 = 1
                key 1 0 1 = 1
                tear = done
                key 3 0 0 = -2
                key 5 0 0 = Index
                mount = 7
                key 4 0 0 = 2
                key 3 0 0 = 3
                key 2 0 0 = 4
                key 1 0 0 = 5
                close 0 = 0
                key 0 0 99 = 1
                """);
    }

    private static void arm() {
        CHECK.script("promise 11", TWO_ARMS + """
                arm 1 0 = Index
                arm 0 100 = Index
                arm 0 -1 = Index
                key 0 0 0 = 1
                key 1 0 0 = 2
                arm 0 0 = -1
                allot 0 0 0 = 50
                arm 0 0 = 1
                allot 0 0 1 = 0
                arm 0 1 = -1
                key 2 0 1 = 1
                key 2 0 1 = 1
                arm 0 1 = -1
                reserve 0 0 = 1
                offline 0 0 2 = 51
                key 0 0 2 = 1
                key 3 0 2 = 2
                arm 0 2 = -1
                tear = done
                report 0 = -2
                arm 0 0 = 1
                arm 0 2 = -1
                mount = 14
                report 0 = 1
                arm 0 2 = 1
                open 0 4 = 1
                arm 0 1 = 0
                arm 0 3 = -1
                """);
    }

    private static void open() {
        CHECK.script("promise 12", """
                open -1 0 = Index
                open 0 5 = Index
                open 5 5 = Index
                open 3 3 = 0
                tear = done
                open 3 3 = 0
                open 4 0 = -2
                open 3 3 = -2
                open 0 5 = Index
                mount = 0
                open 4 0 = 1
                open 4 0 = 0
                open 1 2 = 0
                tear = done
                open 1 2 = 0
                site 0 = -2
                open 1 2 = -2
                mount = 1
                """);
    }

    private static void count() {
        CHECK.script("promise 13", TWO_ARMS + """
                count 8 0 = Index
                count -1 0 = Index
                count 0 2 = Index
                count 0 -1 = Index
                allot 0 0 0 = 50
                allot 0 0 1 = 0
                allot 0 0 2 = 1
                allot 0 1 3 = 2
                reserve 0 0 = 1
                offline 0 0 4 = 51
                count 0 0 = -1
                open 0 1 = 1
                count 0 0 = 2
                count 0 1 = 1
                count 1 0 = 1
                count 7 1 = 0
                tear = done
                report 0 = -2
                count 0 1 = 1
                mount = 11
                report 0 = 1
                count 0 1 = 2
                count 0 0 = 2
                """);
    }

    private static void spread() {
        CHECK.script("promise 14", """
                arms 3 1 2 0 6 4 = done
                spread 8 = Index
                spread -1 = Index
                spread 0 = -1
                open 0 1 = 1
                spread 0 = 0
                """);
        CHECK.script("promise 14, with people", """
                arms 1 2 0 0 6 -7 = done
                site 0 = 1
                kits 0 0 0 9 = 9
                kits 0 1 50 9 = 9
                allot 0 1 0 = 0
                allot 0 1 1 = 50
                allot 0 1 2 = 51
                allot 0 1 3 = 52
                spread 1 = -1
                reserve 0 1 = 1
                offline 0 1 4 = 1
                open 0 1 = 1
                spread 1 = 1
                report 0 = 1
                spread 1 = 1
                spread 0 = 0
                count 1 0 = 2
                count 1 1 = 3
                """);
        spreadOverTheLastArms();
    }

    /** Stratum 2's first entries are 0 2 0 2 0 0 1 1: the widest gap lies between different arms as it grows. */
    private static void spreadOverTheLastArms() {
        String start = """
                arms 2 1 1 0 8 12345 = done
                site 0 = 1
                kits 0 0 0 9 = 9
                kits 0 1 50 9 = 9
                kits 0 2 90 9 = 9
                """;
        int[] kits = {0, 90, 1, 91, 2, 3, 50, 51};
        int[] gaps = {1, 1, 2, 2, 3, 4, 2, 0};
        for (int person = 0; person < kits.length; person++) {
            start += "allot 0 2 " + person + " = " + kits[person] + "\n";
            String end = "open 0 1 = 1\nspread 2 = " + gaps[person] + "\n";
            CHECK.script("promise 14, up to person " + person, start + end);
        }
    }

    private static void entry() {
        CHECK.script("promise 15", TWO_ARMS + """
                entry 8 0 = Index
                entry -1 0 = Index
                allot 0 0 0 = 50
                reserve 0 0 = 1
                entry 0 0 = -1
                open 0 1 = 1
                entry 0 -1 = -1
                entry 0 -2147483648 = -1
                entry 0 0 = 1
                entry 0 1 = 0
                entry 0 2 = 0
                entry 0 3 = 1
                entry 0 4 = 0
                entry 0 5 = 0
                entry 0 6 = -1
                entry 0 2147483647 = -1
                entry 1 0 = -1
                report 0 = 0
                entry 0 5 = 0
                """);
        CHECK.script("promise 15, a block that was looked at but not taken", """
                arms 2 1 0 0 3 -7046029254386353131 = done
                site 0 = 1
                allot 0 0 0 = -6
                reserve 0 0 = -6
                open 0 1 = 1
                entry 0 0 = -1
                """);
    }

    private static void blocks() {
        CHECK.script("promise 16", TWO_ARMS + """
                blocks 8 = Index
                blocks -1 = Index
                blocks 0 = 0
                allot 0 0 0 = 50
                blocks 0 = 1
                blocks 1 = 0
                reserve 0 0 = 1
                reserve 0 7 = 0
                blocks 0 = 2
                blocks 7 = 1
                report 0 = 0
                blocks 0 = 2
                close 0 = 0
                blocks 0 = 2
                """);
    }

    private static void stock() {
        CHECK.script("promise 17", TWO_ARMS + """
                stock 1 0 = Index
                stock 1 3 = Index
                stock 0 3 = Argument
                stock 0 -1 = Argument
                stock 0 0 = 15
                stock 0 1 = 0
                stock 0 2 = 0
                site 1 = 2
                stock 1 0 = 0
                allot 0 0 0 = 50
                reserve 0 0 = 1
                offline 0 0 1 = 51
                stock 0 0 = 11
                stock 0 1 = 2
                stock 0 2 = 2
                stock 1 2 = 0
                """);
    }

    private static void used() {
        CHECK.script("promise 18", TWO_ARMS + """
                site 3 = 2
                kits 3 0 900 50 = 50
                kits 3 1 990 10 = 10
                used -1 = Index
                used 1000 = Index
                allot 3 0 99 = 990
                reserve 3 0 = 1
                offline 3 0 0 = 991
                used 990 = -1
                open 0 1 = 1
                used 990 = 399
                used 991 = 300
                used 900 = -1
                used 999 = -1
                used 0 = -1
                used 500 = -1
                """);
    }

    private static void tear() {
        CHECK.script("promise 19", """
                tear = done
                tear = done
                site 10 = Index
                open 1 1 = 0
                arms 0 0 0 0 0 0 = Argument
                mount = State
                arms 1 1 0 0 2 1 = done
                arms 0 1 0 0 2 1 = Argument
                arms 1 1 0 0 2 1 = done
                tear = done
                site 0 = -2
                mount = 0
                count 0 0 = State
                site 0 = 1
                arms 1 1 0 0 2 1 = done
                tear = done
                allot 0 0 0 = -6
                reserve 0 0 = -6
                offline 0 0 0 = -7
                kits 0 0 0 5 = -2
                mount = 2
                kits 0 0 0 5 = 5
                tear = done
                kits 0 0 0 5 = -5
                kits 0 0 5 5 = -2
                mount = 3
                """);
    }

    private static void tearOfEachCall() {
        String[] calls = {"arms 1 1 0 0 2 1", "site 1", "kits 0 0 20 3", "report 0", "close 0", "key 0 0 0",
            "open 0 1", "reserve 0 0", "allot 0 0 0"};
        for (String call : calls) {
            String torn = call.startsWith("arms") ? "done" : "-2";
            CHECK.script("promise 19, " + call, TWO_ARMS + "tear = done\n" + call + " = " + torn + """

                    site 1 = -2
                    stock 0 0 = 15
                    mount = 4
                    mount = State
                    site 1 = 2
                    stock 0 0 = 15
                    stock 0 1 = 0
                    stock 0 2 = 0
                    blocks 0 = 0
                    kits 0 0 20 2 = 12
                    key 1 0 0 = 1
                    allot 0 0 0 = 50
                    reserve 0 0 = 1
                    open 0 1 = 1
                    count 0 1 = 1
                    entry 0 0 = 1
                    """);
        }
    }

    private static void mount() {
        CHECK.script("promise 20", TWO_ARMS + """
                mount = State
                allot 0 0 0 = 50
                allot 0 0 0 = -5
                reserve 0 0 = 1
                offline 0 0 1 = 51
                report 0 = 1
                report 0 = 0
                key 0 0 0 = 1
                key 0 0 0 = 1
                open 0 0 = 0
                open 0 1 = 1
                open 0 1 = 0
                kits 0 0 51 1 = -5
                arm 0 0 = 1
                tear = done
                close 0 = -2
                stock 0 2 = 2
                tear = done
                mount = 12
                mount = State
                close 0 = 0
                tear = done
                site 1 = -2
                mount = 13
                """);
    }
}
