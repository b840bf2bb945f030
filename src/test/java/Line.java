import java.util.ArrayList;
import java.util.List;

/**
 * A line of a script: a call and what is due. Due is a number, the name of a code or an exception, or
 * "done" (of a call without an answer), "nothing" (of such a call that changes nothing), "torn" (of any
 * call whose record is torn).
 */
record Line(String call, String due) {
    private static final List<String> CODES =
            List.of("NONE", "DOWN", "OPENED", "CLOSED", "KNOWN", "NO_KIT", "NO_BLOCK", "HELD");
    private static final List<String> REFUSALS = List.of("Index", "State", "Argument", "nothing");
    private static final List<String> READS =
            List.of("arm", "count", "spread", "entry", "blocks", "stock", "used");

    /** The lines of a script, "call = due" each; "{1 5..7} " stands for several lines with a number each. */
    static List<Line> all(String script) {
        List<Line> lines = new ArrayList<>();
        for (String text : script.split("\n")) {
            if (!text.isBlank()) {
                unfold(text.trim(), lines);
            }
        }
        return lines;
    }

    /** The answer that is due, as Calls tells it. */
    String answer() {
        if (due.equals("torn")) {
            return call.startsWith("arms ") ? "done" : "-2";
        }
        if (due.equals("nothing")) {
            return "done";
        }
        return CODES.contains(due) ? String.valueOf(-1 - CODES.indexOf(due)) : due;
    }

    boolean isTorn() {
        return due.equals("torn");
    }

    boolean changesNothing() {
        String name = call.split(" ")[0];
        return REFUSALS.contains(due) || CODES.contains(due) || READS.contains(name)
                || name.equals("open") && due.equals("0");
    }

    private static void unfold(String text, List<Line> lines) {
        int open = text.indexOf('{');
        if (open < 0) {
            String[] sides = text.split(" = ");
            lines.add(new Line(sides[0], sides[1]));
            return;
        }
        int end = text.indexOf('}', open);
        List<String> numbers = numbers(text.substring(open + 1, end));
        String rest = text.substring(end + 1);
        int other = rest.indexOf('{', rest.indexOf(" = "));
        // Numbers on the side of what is due go along with the first ones of the call.
        List<String> dues = other < 0 ? List.of() : numbers(rest.substring(other + 1, rest.length() - 1));
        for (int i = 0; i < numbers.size(); i++) {
            String tail = other < 0 ? rest : rest.substring(0, other) + dues.get(i);
            unfold(text.substring(0, open) + numbers.get(i) + tail, lines);
        }
    }

    private static List<String> numbers(String set) {
        List<String> numbers = new ArrayList<>();
        for (String word : set.trim().split(" +")) {
            int dots = word.indexOf("..");
            if (dots < 0) {
                numbers.add(word);
                continue;
            }
            int last = Integer.parseInt(word.substring(dots + 2));
            for (int n = Integer.parseInt(word.substring(0, dots)); n <= last; n++) {
                numbers.add(String.valueOf(n));
            }
        }
        return numbers;
    }
}
