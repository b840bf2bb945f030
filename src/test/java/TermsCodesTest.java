import java.util.List;

/**
 * Terms, "CODES": a call that answers one changes nothing; of several the one that its comment names first.
 * Each call is made with every set of reasons that can hold at once.
 */
public final class TermsCodesTest {
    private static final Check CHECK = new Check("terms, codes");
    // Stratum 0's and stratum 7's first block are 1 0 0.
    private static final String START = """
            arms 2 1 0 0 3 -7046029254386353131 = done
            site 0 = 1
            site 1 = 2
            """;

    /** A reason why the call could be refused: what makes it hold, and what makes it not hold. */
    private record Reason(String code, String holds, String lacks) {
    }

    private static final Reason CLOSED = new Reason("CLOSED", "close 0 = any\n", "");
    private static final Reason OPENED = new Reason("OPENED", "open 0 1 = 1\n", "");
    private static final Reason DOWN = new Reason("DOWN", "tear = done\nkey 4 1 99 = torn\n", "");
    // Not a code: a tear that waits must not show in a call that answers one.
    private static final Reason TEAR = new Reason("a tear that waits", "tear = done\n", "");

    public static void main(String[] args) {
        Reason met = new Reason("KNOWN", "kits 0 1 50 1 = 1\nallot 0 0 0 = 50\n", "");
        Reason noKit = new Reason("NO_KIT", "", "kits 0 0 10 3 = 3\nkits 0 1 60 3 = 3\n");
        every("allot 0 0 0", "60", List.of("DOWN", "OPENED", "CLOSED", "KNOWN", "NO_KIT"), met, noKit);

        Reason held = new Reason("HELD", "kits 0 0 0 2 = 2\nkits 0 1 50 1 = 1\nreserve 0 0 = 0\n", "");
        every("reserve 0 0", "0", List.of("DOWN", "OPENED", "CLOSED", "HELD", "NO_KIT"), held, noKit);

        Reason metAtDesk = new Reason("KNOWN", "kits 0 1 50 1 = 1\nallot 0 7 0 = 50\n", "");
        Reason noBlock = new Reason("NO_BLOCK", "", "kits 0 0 10 2 = 2\nkits 0 1 60 1 = 1\nreserve 0 0 = 0\n");
        every("offline 0 0 0", "60", List.of("DOWN", "CLOSED", "KNOWN", "NO_BLOCK"), metAtDesk, noBlock);

        Reason came = new Reason("KNOWN", "kits 0 0 1 1 = 1\n", "");
        every("kits 0 0 0 2", "2", List.of("DOWN", "CLOSED", "KNOWN"), came);
        Reason cameElsewhere = new Reason("KNOWN", "kits 1 1 1 1 = 1\n", "");
        every("kits 0 0 0 2", "2", List.of("DOWN", "CLOSED", "KNOWN"), cameElsewhere);

        every("report 0", "0", List.of("DOWN", "CLOSED"));
        every("close 0", "0", List.of("DOWN", "CLOSED"));
        every("site 5", "3", List.of("DOWN"));
        every("key 0 0 0", "1", List.of("DOWN"));
        open();
        CHECK.end();
    }

    private static void every(String call, String answer, List<String> order, Reason... own) {
        for (Reason last : new Reason[] {new Reason("none", "", ""), DOWN, TEAR}) {
            for (int set = 0; set < 4 << own.length; set++) {
                StringBuilder script = new StringBuilder(START);
                StringBuilder reasons = new StringBuilder();
                for (int i = 0; i < own.length; i++) {
                    add(own[i], (set >> i & 1) != 0, script, reasons);
                }
                add(CLOSED, (set >> own.length & 1) != 0, script, reasons);
                add(OPENED, (set >> own.length + 1 & 1) != 0, script, reasons);
                add(last, true, script, reasons);
                String plain = last == TEAR ? "torn" : answer;
                String due = due(order, List.of(reasons.toString().split(",")), plain);
                CHECK.script(call + " with" + reasons, script + call + " = " + due + "\n");
            }
        }
    }

    private static void add(Reason reason, boolean holds, StringBuilder script, StringBuilder reasons) {
        String lines = holds ? reason.holds() : reason.lacks();
        // What close answers depends on the reserve that it drops.
        script.append(lines.replace("any", script.indexOf("\nreserve ") < 0 ? "0" : "3"));
        if (holds) {
            reasons.append(' ').append(reason.code()).append(',');
        }
    }

    private static String due(List<String> order, List<String> reasons, String plain) {
        for (String code : order) {
            if (reasons.contains(" " + code)) {
                return code;
            }
        }
        return plain;
    }

    /** 0 is no code, but an open that answers it writes no record either. */
    private static void open() {
        CHECK.script("open", "tear = done\nopen 2 2 = 0\nopen 2 3 = torn\nopen 2 3 = DOWN\nmount = 0\nopen 2 3 = 1\n"
                + "tear = done\nopen 2 3 = 0\nsite 0 = torn\nopen 2 3 = DOWN\nmount = 1\n");
    }
}
