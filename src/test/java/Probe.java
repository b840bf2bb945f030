import java.util.ArrayList;
import java.util.List;

/**
 * All that calls can see of a desk, to tell whether two desks are alike. Each row of calls is made on a
 * desk of its own, since it changes that desk, and stays short enough for an object's 512 calls.
 */
final class Probe {
    private static final List<List<String>> ROWS = List.of(
            row("blocks {0..7}", "spread {0..7}", "stock {0..9} {0..2}", "count {0..7} {0..3}", "arm {0..9} {0..9 99}",
                    "entry {0..7} {0..3}", "used {0..9}", "mount"),
            row("mount", "open 0 1", "arm {0..9} {0..19 98 99}"),
            row("mount", "open 0 1", "entry {0..7} {0..26}", "count {0..7} {0..3}", "spread {0..7}"),
            row("mount", "open 0 1", "used {0..249}"),
            row("mount", "open 0 1", "used {250..499}"),
            row("mount", "open 0 1", "used {500..749}"),
            row("mount", "open 0 1", "used {750..999}"),
            row("mount", "arms 1 1 0 0 2 5", "site 8", "kits 8 0 {0..70} 1",
                    "kits 8 1 {80 90 99 100 101 150 198..202} 1",
                    "kits 8 1 {250 300 350 400 450 500 550 600 650 700 750 800 850 900 949..951 998 999} 1"),
            deliveries(),
            row("mount", "key {0..4} {0..2 9} {0..7 98 99}"),
            row("mount", "allot {0..3 9} {0..7} 60", "allot {0..3 9} {0..7} {61..63}", "reserve {0..3 9} {0..7}",
                    "open 0 1", "count {0..7} {0..3}"),
            row("mount", "offline {0..3 9} {0..7} 70", "offline {0..3 9} {0..7} {71..73}", "report {0..3 9}",
                    "reserve {0..3 9} {0..7}", "close {0..3 9}", "open 0 1", "count {0..7} {0..3}"),
            row("mount", "close {0..9}", "report {0..9}", "stock {0..9} {0..2}"),
            row("mount", "site {0..9}", "mount", "key 4 {0..9} 97", "tear", "key 4 {0..9} 96", "mount"),
            row("mount", "arms 1 1 1 1 4 99", "site 7", "kits 7 0 970 4", "kits 7 1 974 4", "kits 7 2 978 4",
                    "kits 7 3 982 4", "reserve 7 {0..7}", "offline 7 {0..7} {90..95}", "open 0 1",
                    "entry {0..7} {0..7}"));

    private Probe() {
    }

    /** The calls of all rows with their answers, each row behind the given calls on a new desk. */
    static List<String> of(List<String> calls) {
        List<String> seen = new ArrayList<>();
        for (List<String> row : ROWS) {
            TrialDesk desk = new TrialDesk();
            for (String call : calls) {
                Calls.answer(desk, call);
            }
            for (String call : row) {
                seen.add(call + ": " + Calls.answer(desk, call));
            }
        }
        return seen;
    }

    /** A kit more for each arm of each site, whose answer tells how many are free. */
    private static List<String> deliveries() {
        List<String> row = row("mount");
        for (int i = 0; i < 40; i++) {
            row.add("kits " + i / 4 + " " + i % 4 + " " + (955 + i) + " 1");
        }
        row.addAll(row("stock {0..9} {0..2}"));
        return row;
    }

    private static List<String> row(String... parts) {
        List<String> row = new ArrayList<>();
        for (String part : parts) {
            for (Line line : Line.all(part + " = any")) {
                row.add(line.call());
            }
        }
        return row;
    }
}
