/** Beginnings of scripts that several tests share. */
final class Starts {
    /**
     * Four records. Stratum 0's list is 1 0 0, 1 0 0, 0 1 0, 0 0 1; stratum 1's 0 1 0, 1 0 0, 0 1 0;
     * stratum 2's 0 0 1, 0 1 0; stratum 7's 1 0 0, 0 1 0.
     */
    static final String TWO_ARMS = """
            arms 2 1 0 0 3 -7046029254386353131 = done
            site 0 = 1
            kits 0 0 0 10 = 10
            kits 0 1 50 5 = 5
            """;

    /** Five records. Stratum 2's list is 0 2 0 2 0 0 1 1, 0 2 2 0 0 0 1 1. */
    static final String THREE_ARMS = """
            arms 2 1 1 0 8 12345 = done
            site 0 = 1
            kits 0 0 0 9 = 9
            kits 0 1 50 9 = 9
            kits 0 2 90 9 = 9
            """;

    /** The desk goes down by this, and has the records that it had. */
    static final String GOES_DOWN = """
            tear = done
            open 0 1 = torn
            """;

    private Starts() {
    }

    /** Lines that tell how many records there are, on a desk that is neither down nor opened. */
    static String records(int number) {
        return GOES_DOWN + "mount = " + number + "\n";
    }
}
