/** Promise 14: spread. */
public final class Promise14SpreadTest {
    private static final Check CHECK = new Check("promise 14, spread");

    public static void main(String[] args) {
        exceptions();
        weights();
        eachStepOfABlock();
        fourWeights();
        lastTwoArms();
        onlyThoseKnown();
        CHECK.end();
    }

    private static void exceptions() {
        CHECK.script("there is no such stratum", Starts.TWO_ARMS + """
                spread {MIN -1 8 9 MAX} = Index
                spread {0..7} = NONE
                open 0 1 = 1
                spread {-1 8} = Index
                spread {0..7} = 0
                """);
        CHECK.script("there are no arms, but IndexOutOfBoundsException before, both before NONE", """
                spread {0..7} = State
                spread {-1 8} = Index
                open 0 1 = 1
                spread 0 = State
                spread 8 = Index
                tear = done
                site 0 = torn
                spread 0 = State
                """);
    }

    private static void weights() {
        CHECK.script("of how many are known with the one times the other one's weight", """
                arms 1 2 0 0 6 -7 = done
                site 0 = 1
                kits 0 0 0 9 = 9
                kits 0 1 50 9 = 9
                allot 0 1 {0..3} = {0 50 51 52}
                allot 0 4 {4 5} = {1 2}
                spread {1 4} = NONE
                open 0 1 = 1
                spread 1 = 1
                spread 4 = 4
                spread 0 = 0
                """);
        CHECK.script("the greatest weights", """
                arms 3 3 0 0 6 1 = done
                site 0 = 1
                kits 0 0 0 9 = 9
                kits 0 1 50 9 = 9
                allot 0 0 {0 1 2} = {0 1 2}
                open 0 1 = 1
                spread 0 = 9
                """);
    }

    /** Stratum 2's first entries are 0 2 0 2 0 0 1 1: the widest gap lies between other arms as it grows. */
    private static void eachStepOfABlock() {
        String start = Starts.THREE_ARMS;
        int[] kits = {0, 90, 1, 91, 2, 3, 50, 51};
        int[] gaps = {1, 1, 2, 2, 3, 4, 2, 0};
        for (int person = 0; person < kits.length; person++) {
            start += "allot 0 2 " + person + " = " + kits[person] + "\n";
            CHECK.script("up to person " + person, start + "open 0 1 = 1\nspread 2 = " + gaps[person] + "\n");
        }
    }

    /** Stratum 5's first entries are 3 2 3 3 2: arms with nobody known make the widest gaps. */
    private static void fourWeights() {
        String start = """
                arms 1 3 2 3 9 5 = done
                site 0 = 1
                kits 0 0 0 9 = 9
                kits 0 1 10 9 = 9
                kits 0 2 20 9 = 9
                kits 0 3 30 9 = 9
                """;
        int[] kits = {30, 20, 31, 32, 21};
        int[] gaps = {3, 3, 6, 9, 9};
        for (int person = 0; person < kits.length; person++) {
            start += "allot 0 5 " + person + " = " + kits[person] + "\n";
            CHECK.script("four weights, up to person " + person,
                    start + "open 0 1 = 1\nspread 5 = " + gaps[person] + "\n");
        }
    }

    /** Stratum 6's first entries are 3 1 0 2, stratum 3's 2 3 1 0. */
    private static void lastTwoArms() {
        String start = """
                arms 1 1 1 1 4 99 = done
                site 0 = 1
                kits 0 0 0 9 = 9
                kits 0 1 10 9 = 9
                kits 0 2 20 9 = 9
                kits 0 3 30 9 = 9
                """;
        CHECK.script("one known of the last arm", start + "allot 0 6 0 = 30\nopen 0 1 = 1\nspread 6 = 1\n");
        CHECK.script("one known of the last two arms each",
                start + "allot 0 3 {0 1} = {20 30}\nopen 0 1 = 1\nspread 3 = 1\n");
        CHECK.script("a whole block", start + "allot 0 3 {0..3} = {20 30 10 0}\nopen 0 1 = 1\nspread 3 = 0\n");
    }

    private static void onlyThoseKnown() {
        CHECK.script("of those who are known alone, while the desk is down too", Starts.TWO_ARMS + """
                reserve 0 0 = 0
                offline 0 0 0 = 50
                allot 0 0 1 = 51
                open 0 1 = 1
                spread 0 = 2
                tear = done
                report 0 = torn
                spread 0 = 2
                spread 8 = Index
                mount = 8
                report 0 = 1
                spread 0 = 4
                """);
        CHECK.script("an arm that there was before does not count", """
                arms 1 1 1 0 3 1 = done
                arms 2 1 0 0 3 -7046029254386353131 = done
                site 0 = 1
                kits 0 0 0 10 = 10
                kits 0 1 50 5 = 5
                allot 0 0 {0 1 2} = {50 0 1}
                allot 0 0 3 = 51
                open 0 1 = 1
                spread 0 = 2
                """);
    }
}
