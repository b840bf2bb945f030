import java.util.ArrayList;
import java.util.List;

/**
 * Terms: methods throw what their comments name, before all codes; a call that throws changes nothing; of
 * several exceptions the one named first is thrown. Each call is made with every set of wrong arguments,
 * in every state that codes come from.
 */
public final class TermsExceptionsTest {
    private static final Check CHECK = new Check("terms, exceptions");
    private static final String ARMS = "arms 2 1 0 0 3 -7046029254386353131 = done\n";
    private static final String KITS = "kits 0 0 0 10 = 10\nkits 0 1 50 5 = 5\nallot 0 0 0 = 50\nreserve 0 1 = 0\n";
    private static final String[] CALLS = {"kits site arm from number", "allot site stratum person",
        "reserve site stratum", "offline site stratum person", "report site", "close site", "key holder site person",
        "arm site person", "open holder holder", "count stratum arm", "spread stratum", "blocks stratum",
        "entry stratum i", "stock site what", "used from", "site place"};
    private static final List<String> NEED_ARMS = List.of("kits", "allot", "reserve", "offline", "count", "spread");

    private static int turn;

    public static void main(String[] args) {
        for (String last : new String[] {"", "open 0 1 = 1\n", "close 0 = 3\n", "close 0 = 3\nopen 0 1 = 1\n"}) {
            wrongCalls("site 0 = 1\n" + last.replace("3", "0"), false, last);
            wrongCalls(ARMS + "site 0 = 1\n" + KITS + last, true, last);
        }
        armsIndexWithoutArms();
        armsAndMount();
        CHECK.end();
    }

    /** All calls with all sets of wrong arguments that throw, in a state and in the same one when it is down. */
    private static void wrongCalls(String start, boolean arms, String last) {
        for (String call : CALLS) {
            String[] words = call.split(" ");
            StringBuilder lines = new StringBuilder();
            for (int set = 0; set < 1 << words.length - 1; set++) {
                lines.append(wrongCall(words, set, arms));
            }
            String what = call + (arms ? "" : " without arms") + ", " + last.replace("\n", ", ");
            CHECK.script(what, start + lines);
            CHECK.script(what + " down", start + "tear = done\nsite 2 = torn\n" + lines);
        }
    }

    /** The line of a call whose wrong arguments the set tells; no line if such a call throws nothing. */
    private static String wrongCall(String[] words, int set, boolean arms) {
        StringBuilder call = new StringBuilder(words[0]);
        boolean index = false;
        boolean argument = false;
        for (int i = 1; i < words.length; i++) {
            boolean wrong = (set >> i - 1 & 1) != 0;
            call.append(' ').append(wrong ? wrong(words[i], arms) : right(words[i]));
            argument |= wrong && List.of("number", "what").contains(words[i]);
            index |= wrong && !List.of("number", "what", "i").contains(words[i]);
        }
        // Site 0 was opened before.
        argument |= words[0].equals("site");
        boolean state = !arms && NEED_ARMS.contains(words[0]);
        if (!index && !state && !argument) {
            return "";
        }
        return call + " = " + (index ? "Index" : state ? "State" : "Argument") + "\n";
    }

    private static String right(String kind) {
        return kind.equals("number") ? "2" : kind.equals("from") ? "20" : "0";
    }

    /** Another wrong one at each turn, so that all come. */
    private static String wrong(String kind, boolean arms) {
        turn++;
        String[] all = wrongOnes(kind, arms).split(" ");
        return all[turn % all.length];
    }

    private static String wrongOnes(String kind, boolean arms) {
        switch (kind) {
            case "site": return "-1 1 2 9 10 MIN MAX";
            case "place": return "-1 10 MIN MAX";
            case "person": return "-1 100 MIN MAX";
            case "stratum": return "-1 8 MIN MAX";
            case "holder": return "-1 5 MIN MAX";
            case "from": return "-1 1000 MIN MAX";
            case "arm": return arms ? "-1 2 3 4 MIN MAX" : "-1 4 MIN MAX";
            case "number": return "0 51 -1 MIN 980";
            default: return "-1 3 MIN MAX";
        }
    }

    private static void armsIndexWithoutArms() {
        CHECK.script("arms 0 .. 3 as long as there are none", """
                site 0 = 1
                kits 0 {0..3} 0 1 = State
                count 0 {0..3} = State
                arms 1 1 0 0 2 5 = done
                kits 0 {2 3} 0 1 = Index
                count 0 {2 3} = Index
                arms 1 1 1 0 3 5 = done
                kits 0 {2 3} 0 1 = {1 Index}
                count 0 {2 3} = {NONE Index}
                arms 1 1 1 1 4 5 = done
                kits 0 3 1 1 = 1
                count 0 {2 3} = NONE
                count 0 4 = Index
                """);
        CHECK.script("a kit above 999 before no arms and a wrong count", """
                site 0 = 1
                kits 0 0 {999 998 951 950} 51 = Index
                kits 0 0 949 51 = State
                kits 0 0 999 {0 1} = State
                kits 0 0 999 2 = Index
                arms 1 1 0 0 2 5 = done
                kits 0 0 {999 998 951 950} 51 = Index
                kits 0 0 949 51 = Argument
                kits 0 0 0 {1000 1001 MAX} = {Argument Index Index}
                kits 0 0 999 {0 -1 MIN} = Argument
                kits 0 0 999 2 = Index
                kits 0 0 999 1 = 1
                """);
    }

    private static void armsAndMount() {
        String wrong = "arms {0 4} 1 0 0 2 1 = Argument\narms 1 1 0 1 3 1 = Argument\narms 1 1 0 0 {0 3 26} 1 = Argument\n";
        CHECK.script("arms, no block was taken", ARMS + "site 0 = 1\n" + wrong + "arms 1 1 0 0 2 1 = done\n");
        CHECK.script("arms, a block was taken", ARMS + "site 0 = 1\n" + KITS + wrong + "arms 1 1 0 0 2 1 = State\n"
                + "tear = done\nsite 2 = torn\n" + wrong + "arms 1 1 0 0 2 1 = State\n");
        CHECK.script("mount", "mount = State\ntear = done\nmount = State\nsite 0 = torn\nmount = 0\nmount = State\n");
    }
}
