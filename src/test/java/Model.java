import java.util.ArrayDeque;
import java.util.ArrayList;
import java.util.Deque;
import java.util.HashMap;
import java.util.HashSet;
import java.util.List;
import java.util.Map;
import java.util.Set;
import java.util.TreeMap;
import java.util.TreeSet;

/**
 * A second desk, as plain as can be, to compare with: it answers from the document's words, keeps
 * each record as the call that it tells, and mounts by doing all records over on an empty desk.
 */
final class Model {
    private static final String INDEX = "Index";
    private static final String STATE = "State";
    private static final String ARGUMENT = "Argument";

    private static final class Kit {
        int site;
        int arm;
        String state = "free";
        int person;
    }

    private static final class Person {
        int stratum;
        int arm;
        boolean known;
    }

    private List<String> records = new ArrayList<>();
    private boolean down;
    private boolean tear;

    private int[] weights;
    private int size;
    private long seed;
    private boolean opened;
    private Set<Integer> sites = new TreeSet<>();
    private Set<Integer> closed = new HashSet<>();
    private Map<Integer, Kit> kits = new TreeMap<>();
    private Map<Integer, Person> people = new TreeMap<>();
    private Set<String> keys = new HashSet<>();
    private int[] taken = new int[8];
    private Map<Integer, Deque<Integer>> openBlocks = new HashMap<>();
    private Map<String, Deque<Integer>> reserves = new HashMap<>();

    String answer(String call) {
        String[] words = call.split(" ");
        int[] n = new int[words.length - 1];
        for (int i = 0; i < n.length; i++) {
            n[i] = (int) Calls.number(words[i + 1]);
        }
        if (words[0].equals("tear")) {
            tear |= !down;
            return "done";
        }
        if (words[0].equals("mount")) {
            return mountAgain();
        }
        String wrong = thrown(words[0], n);
        if (wrong != null) {
            return wrong;
        }
        String told = reading(words[0], n);
        if (told != null) {
            return told;
        }
        int code = code(words[0], n);
        if (code != 0) {
            return words[0].equals("arms") ? "done" : String.valueOf(code);
        }
        if (words[0].equals("open") && (n[0] == n[1] || opened)) {
            return "0";
        }
        if (tear) {
            tear = false;
            down = true;
            return words[0].equals("arms") ? "done" : "-2";
        }
        records.add(call);
        return done(words[0], n, words);
    }

    private String mountAgain() {
        if (!down) {
            return STATE;
        }
        Model again = new Model();
        for (String record : records) {
            again.answer(record);
        }
        down = false;
        weights = again.weights;
        size = again.size;
        seed = again.seed;
        opened = again.opened;
        sites = again.sites;
        closed = again.closed;
        kits = again.kits;
        people = again.people;
        keys = again.keys;
        taken = again.taken;
        openBlocks = again.openBlocks;
        reserves = again.reserves;
        records = again.records;
        return String.valueOf(records.size());
    }

    /** What each argument of a call is, so that one rule tells whether there is such a one. */
    private static String kindsOf(String name) {
        switch (name) {
            case "kits": return "site arm kit any";
            case "allot": case "offline": return "site stratum person";
            case "reserve": return "site stratum";
            case "report": case "close": return "site";
            case "key": return "holder site person";
            case "arm": return "site person";
            case "open": return "holder holder";
            case "count": return "stratum arm";
            case "spread": case "blocks": return "stratum";
            case "entry": return "stratum any";
            case "stock": return "site any";
            case "used": return "kit";
            case "site": return "place";
            default: return "any any any any any any";
        }
    }

    private boolean exists(String kind, int n) {
        switch (kind) {
            case "site": return sites.contains(n);
            case "place": return 0 <= n && n <= 9;
            case "stratum": return 0 <= n && n <= 7;
            case "person": return 0 <= n && n <= 99;
            case "kit": return 0 <= n && n <= 999;
            case "holder": return 0 <= n && n <= 4;
            case "arm": return 0 <= n && n <= 3 && (weights == null || weights[n] > 0);
            default: return true;
        }
    }

    private String thrown(String name, int[] n) {
        String[] kinds = kindsOf(name).split(" ");
        for (int i = 0; i < n.length; i++) {
            if (!exists(kinds[i], n[i])) {
                return INDEX;
            }
        }
        if (name.equals("kits") && n[2] + (long) n[3] - 1 > 999) {
            return INDEX;
        }
        if (weights == null && Set.of("kits", "allot", "reserve", "offline", "count", "spread").contains(name)) {
            return STATE;
        }
        boolean argument = name.equals("kits") && (n[3] < 1 || n[3] > 50)
                || name.equals("site") && sites.contains(n[0])
                || name.equals("stock") && (n[1] < 0 || n[1] > 2)
                || name.equals("arms") && !fits(n);
        if (argument) {
            return ARGUMENT;
        }
        if (name.equals("arms")) {
            for (int blocks : taken) {
                if (blocks > 0) {
                    return STATE;
                }
            }
        }
        return null;
    }

    private static boolean fits(int[] n) {
        for (int i = 0; i < 4; i++) {
            if (n[i] < (i < 2 ? 1 : 0) || n[i] > 3) {
                return false;
            }
        }
        int total = n[0] + n[1] + n[2] + n[3];
        return !(n[2] == 0 && n[3] != 0) && n[4] >= 1 && n[4] <= 24 && n[4] % total == 0;
    }

    private String reading(String name, int[] n) {
        switch (name) {
            case "arm": return String.valueOf(armOf(n[0], n[1]));
            case "count": return String.valueOf(opened ? known(n[0], n[1]) : -1);
            case "spread": return String.valueOf(opened ? widest(n[0]) : -1);
            case "entry": {
                boolean told = opened && n[1] >= 0 && n[1] < taken[n[0]] * size;
                return String.valueOf(told ? list(n[0], taken[n[0]]).get(n[1]) : -1);
            }
            case "blocks": return String.valueOf(taken[n[0]]);
            case "stock": {
                String state = List.of("free", "marked", "used").get(n[1]);
                return String.valueOf(kits.values().stream()
                        .filter(kit -> kit.site == n[0] && kit.state.equals(state)).count());
            }
            case "used": {
                Kit kit = kits.get(n[0]);
                return String.valueOf(opened && kit != null && kit.state.equals("used")
                        ? 100 * kit.site + kit.person : -1);
            }
            default: return null;
        }
    }

    private int armOf(int site, int person) {
        Person one = people.get(100 * site + person);
        return one != null && one.known && (opened || holders(site, person) >= 2) ? one.arm : -1;
    }

    private int holders(int site, int person) {
        int number = 0;
        for (int holder = 0; holder < 5; holder++) {
            number += keys.contains(site + "/" + person + "/" + holder) ? 1 : 0;
        }
        return number;
    }

    private int known(int stratum, int arm) {
        return (int) people.values().stream()
                .filter(one -> one.known && one.stratum == stratum && one.arm == arm).count();
    }

    private int widest(int stratum) {
        int most = 0;
        for (int one = 0; one < 4; one++) {
            for (int other = 0; other < 4; other++) {
                if (weights[one] > 0 && weights[other] > 0) {
                    most = Math.max(most, known(stratum, one) * weights[other] - known(stratum, other) * weights[one]);
                }
            }
        }
        return most;
    }

    private List<Integer> list(int stratum, int blocks) {
        return Lists.entries(weights, size, seed, stratum, blocks);
    }

    private List<Integer> nextBlock(int stratum) {
        int from = taken[stratum] * size;
        return list(stratum, taken[stratum] + 1).subList(from, from + size);
    }

    private List<Integer> freeKits(int site, int arm) {
        List<Integer> free = new ArrayList<>();
        kits.forEach((number, kit) -> {
            if (kit.site == site && kit.arm == arm && kit.state.equals("free")) {
                free.add(number);
            }
        });
        return free;
    }

    private int entryAtDesk(int stratum) {
        Deque<Integer> open = openBlocks.get(stratum);
        return open == null || open.isEmpty() ? nextBlock(stratum).get(0) : open.peek();
    }

    private boolean lacksKits(int site, int stratum) {
        List<Integer> block = nextBlock(stratum);
        for (int arm = 0; arm < 4; arm++) {
            int wanted = arm;
            if (freeKits(site, arm).size() < block.stream().filter(entry -> entry == wanted).count()) {
                return true;
            }
        }
        return false;
    }

    /** The code that the call answers, 0 if it answers none. */
    private int code(String name, int[] n) {
        if (down) {
            return -2;
        }
        if (opened && (name.equals("allot") || name.equals("reserve"))) {
            return -3;
        }
        if (Set.of("kits", "allot", "reserve", "offline", "report", "close").contains(name) && closed.contains(n[0])) {
            return -4;
        }
        switch (name) {
            case "kits":
                for (int kit = n[2]; kit < n[2] + n[3]; kit++) {
                    if (kits.containsKey(kit)) {
                        return -5;
                    }
                }
                return 0;
            case "allot":
                if (people.containsKey(100 * n[0] + n[2])) {
                    return -5;
                }
                return freeKits(n[0], entryAtDesk(n[1])).isEmpty() ? -6 : 0;
            case "reserve":
                if (reserves.containsKey(n[0] + "/" + n[1])) {
                    return -8;
                }
                return lacksKits(n[0], n[1]) ? -6 : 0;
            case "offline": {
                if (people.containsKey(100 * n[0] + n[2])) {
                    return -5;
                }
                Deque<Integer> left = reserves.get(n[0] + "/" + n[1]);
                return left == null || left.isEmpty() ? -7 : 0;
            }
            default:
                return 0;
        }
    }

    private String done(String name, int[] n, String[] words) {
        switch (name) {
            case "arms":
                weights = new int[] {n[0], n[1], n[2], n[3]};
                size = n[4];
                seed = Calls.number(words[6]);
                return "done";
            case "site":
                sites.add(n[0]);
                return String.valueOf(sites.size());
            case "kits":
                for (int number = n[2]; number < n[2] + n[3]; number++) {
                    Kit kit = new Kit();
                    kit.site = n[0];
                    kit.arm = n[1];
                    kits.put(number, kit);
                }
                return String.valueOf(freeKits(n[0], n[1]).size());
            case "allot": return String.valueOf(allotAtDesk(n[0], n[1], n[2]));
            case "reserve": return String.valueOf(reserveNow(n[0], n[1]));
            case "offline": {
                int kit = reserves.get(n[0] + "/" + n[1]).remove();
                give(n[0], n[1], n[2], kit, false);
                return String.valueOf(kit);
            }
            case "report": return String.valueOf(reportNow(n[0]));
            case "close": {
                closed.add(n[0]);
                return String.valueOf(dropReserves(n[0]));
            }
            case "key":
                keys.add(n[1] + "/" + n[2] + "/" + n[0]);
                return String.valueOf(holders(n[1], n[2]));
            case "open":
                opened = true;
                return "1";
            default: throw new AssertionError(name);
        }
    }

    private int allotAtDesk(int site, int stratum, int person) {
        Deque<Integer> open = openBlocks.get(stratum);
        if (open == null || open.isEmpty()) {
            open = new ArrayDeque<>(nextBlock(stratum));
            openBlocks.put(stratum, open);
            taken[stratum]++;
        }
        int kit = freeKits(site, open.remove()).get(0);
        give(site, stratum, person, kit, true);
        return kit;
    }

    private void give(int site, int stratum, int person, int number, boolean known) {
        Kit kit = kits.get(number);
        kit.state = "used";
        kit.person = person;
        Person one = new Person();
        one.stratum = stratum;
        one.arm = kit.arm;
        one.known = known;
        people.put(100 * site + person, one);
    }

    private int reserveNow(int site, int stratum) {
        Deque<Integer> row = new ArrayDeque<>();
        for (int arm : nextBlock(stratum)) {
            int kit = freeKits(site, arm).get(0);
            kits.get(kit).state = "marked";
            row.add(kit);
        }
        reserves.put(site + "/" + stratum, row);
        return taken[stratum]++;
    }

    private int reportNow(int site) {
        int number = 0;
        for (int person = 0; person < 100; person++) {
            Person one = people.get(100 * site + person);
            if (one != null && !one.known) {
                one.known = true;
                number++;
            }
        }
        dropReserves(site);
        for (Kit kit : kits.values()) {
            if (kit.site == site && kit.state.equals("marked")) {
                kit.state = "free";
            }
        }
        return number;
    }

    private int dropReserves(int site) {
        int left = 0;
        for (int stratum = 0; stratum < 8; stratum++) {
            Deque<Integer> row = reserves.remove(site + "/" + stratum);
            left += row == null ? 0 : row.size();
        }
        return left;
    }
}
