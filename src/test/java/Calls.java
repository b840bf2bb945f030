import java.util.HashMap;
import java.util.Map;

/** Makes calls that are told as text ("allot 0 2 3") and tells their answers as text. */
final class Calls {
    private static final Map<String, Calls> READ_BEFORE = new HashMap<>();

    private final String name;
    private final int[] n;
    private long last;

    private Calls(String call) {
        String[] words = call.trim().split(" +");
        name = words[0];
        n = new int[words.length - 1];
        for (int i = 0; i < n.length; i++) {
            last = number(words[i + 1]);
            n[i] = (int) last;
        }
    }

    /** The answer: a number, "done" for a method without one, or "Index", "State", "Argument" for what was thrown. */
    static String answer(TrialDesk desk, String call) {
        Calls read = READ_BEFORE.computeIfAbsent(call, Calls::new);
        try {
            return read.make(desk);
        } catch (RuntimeException e) {
            return nameOf(e);
        }
    }

    /** A number, or the name of an end of int or long. */
    static long number(String word) {
        switch (word) {
            case "MIN": return Integer.MIN_VALUE;
            case "MAX": return Integer.MAX_VALUE;
            case "LONG_MIN": return Long.MIN_VALUE;
            case "LONG_MAX": return Long.MAX_VALUE;
            default: return Long.parseLong(word);
        }
    }

    /** Only these very classes count: a subclass of them comes from the machine, not from a throw statement. */
    private static String nameOf(RuntimeException e) {
        if (e.getClass() == IndexOutOfBoundsException.class) {
            return "Index";
        }
        if (e.getClass() == IllegalStateException.class) {
            return "State";
        }
        return e.getClass() == IllegalArgumentException.class ? "Argument" : e.toString();
    }

    private String make(TrialDesk desk) {
        switch (name) {
            case "arms":
                desk.arms(n[0], n[1], n[2], n[3], n[4], last);
                return "done";
            case "tear":
                desk.tear();
                return "done";
            default:
                return String.valueOf(number(desk));
        }
    }

    private int number(TrialDesk desk) {
        switch (name) {
            case "site": return desk.site(n[0]);
            case "kits": return desk.kits(n[0], n[1], n[2], n[3]);
            case "allot": return desk.allot(n[0], n[1], n[2]);
            case "reserve": return desk.reserve(n[0], n[1]);
            case "offline": return desk.offline(n[0], n[1], n[2]);
            case "report": return desk.report(n[0]);
            case "close": return desk.close(n[0]);
            case "key": return desk.key(n[0], n[1], n[2]);
            case "arm": return desk.arm(n[0], n[1]);
            case "open": return desk.open(n[0], n[1]);
            case "count": return desk.count(n[0], n[1]);
            case "spread": return desk.spread(n[0]);
            case "entry": return desk.entry(n[0], n[1]);
            case "blocks": return desk.blocks(n[0]);
            case "stock": return desk.stock(n[0], n[1]);
            case "used": return desk.used(n[0]);
            case "mount": return desk.mount();
            default: throw new AssertionError("no such call: " + name);
        }
    }
}
