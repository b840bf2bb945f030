/** Promise 1: no arms, no sites, and nothing else either. */
public final class Promise01NewObjectTest {
    private static final Check CHECK = new Check("promise 1, a new object");

    public static void main(String[] args) {
        noArms();
        noSites();
        nothingElse();
        objectsAreApart();
        CHECK.end();
    }

    private static void noArms() {
        CHECK.script("no arms", """
                count {0..7} {0..3} = State
                count {-1 8 MIN MAX} 0 = Index
                count 0 {-1 4 MIN MAX} = Index
                spread {0..7} = State
                spread {-1 8} = Index
                blocks {0..7} = 0
                entry {0..7} {MIN -1 0 1 MAX} = NONE
                site 9 = 1
                kits 9 {0..3} 0 1 = State
                kits 9 {-1 4 MIN MAX} 0 1 = Index
                allot 9 {0 7} {0 99} = State
                reserve 9 {0 7} = State
                offline 9 {0 7} {0 99} = State
                open 0 1 = 1
                count 0 {0..3} = State
                spread {0 7} = State
                entry 0 {-1 0} = NONE
                allot 9 0 0 = State
                reserve 9 0 = State
                """);
    }

    private static void noSites() {
        String calls = """
                kits {0..9} 0 0 1 = Index
                allot {0..9} 0 0 = Index
                reserve {0..9} 0 = Index
                offline {0..9} 0 0 = Index
                report {0..9} = Index
                close {0..9} = Index
                key 0 {0..9} 0 = Index
                arm {0..9} 0 = Index
                stock {0..9} 0 = Index
                """;
        CHECK.script("no sites", calls + "site 5 = 1");
        CHECK.script("no sites though there are arms", "arms 1 1 0 0 2 1 = done\n" + calls + "site 5 = 1");
    }

    private static void nothingElse() {
        CHECK.script("it is not down", "mount = State");
        CHECK.script("no records", Starts.records(0));
        CHECK.script("it is not opened, no kit is used", """
                used {0 1 500 998 999} = NONE
                open 0 1 = 1
                used {0 1 500 998 999} = NONE
                """);
        CHECK.script("no kits came", """
                arms 1 1 0 0 2 1 = done
                site 0 = 1
                stock 0 {0..2} = 0
                kits 0 0 {0 50 100 150 200 250 300 350 400 450} 50 = {50 100 150 200 250 300 350 400 450 500}
                kits 0 1 {500 550 600 650 700 750 800 850 900 950} 50 = {50 100 150 200 250 300 350 400 450 500}
                """);
        CHECK.script("no people, keys and reserves", """
                site 0 = 1
                arm 0 {0 50 99} = NONE
                key {0..4} 0 99 = {1..5}
                arm 0 99 = NONE
                report 0 = 0
                close 0 = 0
                """);
    }

    /** What one object was told must not show in another one. */
    private static void objectsAreApart() {
        TrialDesk other = new TrialDesk();
        TrialDesk one = new TrialDesk();
        one.arms(1, 1, 0, 0, 2, 1);
        one.site(0);
        one.kits(0, 0, 0, 5);
        one.kits(0, 1, 5, 5);
        CHECK.due("an allotted person's kit", one.allot(0, 0, 0), 0);
        one.open(0, 1);
        one.tear();
        one.report(0);
        CHECK.due("another object's site", Calls.answer(other, "stock 0 0"), "Index");
        CHECK.due("another object's arms", Calls.answer(other, "count 0 0"), "State");
        CHECK.due("another object's blocks", Calls.answer(other, "blocks 0"), 0);
        CHECK.due("another object's first site", Calls.answer(other, "site 0"), 1);
        CHECK.due("another object is opened", Calls.answer(other, "open 0 1"), 1);
        CHECK.due("another object's kits", Calls.answer(other, "used 0"), TrialDesk.NONE);
    }
}
