import java.util.Arrays;

/**
 * A desk that allots people of a trial to arms by lists of permuted blocks, with kits whose numbers
 * tell nothing, reserves for sites that are cut off, keys that open what is hidden, and records
 * that are whole or not there.
 */
public final class TrialDesk {
    public static final int NONE = -1;
    public static final int DOWN = -2, OPENED = -3, CLOSED = -4, KNOWN = -5, NO_KIT = -6, NO_BLOCK = -7, HELD = -8;

    private static final int ARMS = 4;
    private static final int SITES = 10;
    private static final int STRATA = 8;
    private static final int PEOPLE = 100;
    private static final int KITS = 1000;
    private static final int HOLDERS = 5;
    private static final int HOLDERS_TO_OPEN = 2;
    private static final int MAX_WEIGHT = 3;
    private static final int MAX_SIZE = 24;
    private static final int MAX_DELIVERY = 50;
    // An object lives for 512 calls, and a call takes at most one block.
    private static final int MAX_BLOCKS = 512;
    // A draw fails once in some ninety million times: no run comes near this bound.
    private static final int MAX_TRIES = 1000000;
    private static final long STRATUM_STEP = 0x9E3779B97F4A7C15L;
    private static final long DRAW_RANGE = 1L << 31;

    private static final int FREE = 1, MARKED = 2, USED = 3;
    private static final int UNREPORTED = 1, REPORTED = 2;

    private final Plan plan = new Plan();
    private final Journal journal = new Journal();
    private final Shelf shelf = new Shelf();
    private final Site[] sites = new Site[SITES];
    private final Stratum[] strata = new Stratum[STRATA];
    private final int[] picked = new int[MAX_SIZE];
    private int siteCount;
    private boolean opened;

    public TrialDesk() {
        for (int number = 0; number < strata.length; number++) {
            strata[number] = new Stratum(number);
        }
    }

    public void arms(int a, int b, int c, int d, int size, long seed)
            throws IllegalArgumentException, IllegalStateException {
        if (!areWeights(a, b, c, d) || !isSize(size, a + b + c + d)) {
            throw new IllegalArgumentException();
        }
        if (isAnyBlockTaken()) {
            throw new IllegalStateException();
        }
        if (journal.down || !journal.write()) {
            return;
        }
        plan.set(a, b, c, d, size);
        for (int number = 0; number < strata.length; number++) {
            stratumAt(number).restart(plan, seed);
        }
    }

    public int site(int site) throws IndexOutOfBoundsException, IllegalArgumentException {
        if (site < 0 || site >= sites.length) {
            throw new IndexOutOfBoundsException();
        }
        if (sites[site] != null) {
            throw new IllegalArgumentException();
        }
        if (journal.down || !journal.write()) {
            return DOWN;
        }
        sites[site] = new Site();
        siteCount++;
        return siteCount;
    }

    public int kits(int site, int arm, int from, int count)
            throws IndexOutOfBoundsException, IllegalStateException, IllegalArgumentException {
        Site place = siteAt(site);
        needArm(arm);
        needKit(from);
        // As a long, since a wild count must not wrap round to a kit that there is.
        if ((long) from + count > KITS) {
            throw new IndexOutOfBoundsException();
        }
        needPlan();
        if (count < 1 || count > MAX_DELIVERY) {
            throw new IllegalArgumentException();
        }
        if (journal.down) {
            return DOWN;
        }
        if (place.closed) {
            return CLOSED;
        }
        if (shelf.hasAny(from, count)) {
            return KNOWN;
        }
        if (!journal.write()) {
            return DOWN;
        }
        shelf.put(site, arm, from, count);
        return shelf.tallyFree(site, arm);
    }

    public int allot(int site, int stratum, int person) throws IndexOutOfBoundsException, IllegalStateException {
        Site place = siteAt(site);
        Stratum row = stratumAt(stratum);
        needPerson(person);
        needPlan();
        if (journal.down) {
            return DOWN;
        }
        if (opened) {
            return OPENED;
        }
        if (place.closed) {
            return CLOSED;
        }
        if (place.isAllotted(person)) {
            return KNOWN;
        }
        int arm = row.nextArm();
        int kit = shelf.leastFree(site, arm, 0);
        if (kit == NONE) {
            return NO_KIT;
        }
        if (!journal.write()) {
            return DOWN;
        }
        row.takeEntry();
        row.addKnown(arm);
        shelf.use(kit, person);
        place.enrol(person, stratum, arm, REPORTED);
        return kit;
    }

    public int reserve(int site, int stratum) throws IndexOutOfBoundsException, IllegalStateException {
        Site place = siteAt(site);
        Stratum row = stratumAt(stratum);
        needPlan();
        if (journal.down) {
            return DOWN;
        }
        if (opened) {
            return OPENED;
        }
        if (place.closed) {
            return CLOSED;
        }
        Reserve held = place.reserveFor(stratum);
        if (held.length > 0) {
            return HELD;
        }
        if (!pickKits(site, row)) {
            return NO_KIT;
        }
        if (!journal.write()) {
            return DOWN;
        }
        held.fill(picked, plan.size);
        shelf.markAll(picked, plan.size);
        return row.takeBlock();
    }

    public int offline(int site, int stratum, int person) throws IndexOutOfBoundsException, IllegalStateException {
        Site place = siteAt(site);
        stratumAt(stratum);
        needPerson(person);
        needPlan();
        if (journal.down) {
            return DOWN;
        }
        if (place.closed) {
            return CLOSED;
        }
        if (place.isAllotted(person)) {
            return KNOWN;
        }
        Reserve held = place.reserveFor(stratum);
        int kit = held.nextKit();
        if (kit == NONE) {
            return NO_BLOCK;
        }
        if (!journal.write()) {
            return DOWN;
        }
        held.next++;
        shelf.use(kit, person);
        place.enrol(person, stratum, shelf.armOf(kit), UNREPORTED);
        return kit;
    }

    public int report(int site) throws IndexOutOfBoundsException {
        Site place = siteAt(site);
        if (journal.down) {
            return DOWN;
        }
        if (place.closed) {
            return CLOSED;
        }
        if (!journal.write()) {
            return DOWN;
        }
        int told = 0;
        for (int person = 0; person < PEOPLE; person++) {
            if (place.tell(person)) {
                stratumAt(place.stratumOf(person)).addKnown(place.armOf(person));
                told++;
            }
        }
        place.dropReserves();
        shelf.freeMarked(site);
        return told;
    }

    public int close(int site) throws IndexOutOfBoundsException {
        Site place = siteAt(site);
        if (journal.down) {
            return DOWN;
        }
        if (place.closed) {
            return CLOSED;
        }
        if (!journal.write()) {
            return DOWN;
        }
        int left = place.entriesLeft();
        place.dropReserves();
        place.closed = true;
        return left;
    }

    public int key(int holder, int site, int person) throws IndexOutOfBoundsException {
        needHolder(holder);
        Site place = siteAt(site);
        needPerson(person);
        if (journal.down || !journal.write()) {
            return DOWN;
        }
        place.addKey(person, holder);
        return place.keyCount(person);
    }

    public int arm(int site, int person) throws IndexOutOfBoundsException {
        Site place = siteAt(site);
        needPerson(person);
        boolean told = opened || place.keyCount(person) >= HOLDERS_TO_OPEN;
        return told && place.isKnown(person) ? place.armOf(person) : NONE;
    }

    public int open(int one, int other) throws IndexOutOfBoundsException {
        needHolder(one);
        needHolder(other);
        if (journal.down) {
            return DOWN;
        }
        if (one == other || opened) {
            return 0;
        }
        if (!journal.write()) {
            return DOWN;
        }
        opened = true;
        return 1;
    }

    public int count(int stratum, int arm) throws IndexOutOfBoundsException, IllegalStateException {
        Stratum row = stratumAt(stratum);
        needArm(arm);
        needPlan();
        return opened ? row.knownWith(arm) : NONE;
    }

    public int spread(int stratum) throws IndexOutOfBoundsException, IllegalStateException {
        Stratum row = stratumAt(stratum);
        needPlan();
        return opened ? row.widestGap() : NONE;
    }

    public int entry(int stratum, int i) throws IndexOutOfBoundsException {
        Stratum row = stratumAt(stratum);
        return opened ? row.takenArm(i) : NONE;
    }

    public int blocks(int stratum) throws IndexOutOfBoundsException {
        return stratumAt(stratum).taken;
    }

    public int stock(int site, int what) throws IndexOutOfBoundsException, IllegalArgumentException {
        siteAt(site);
        switch (what) {
            case 0:
                return shelf.tally(site, FREE);
            case 1:
                return shelf.tally(site, MARKED);
            case 2:
                return shelf.tally(site, USED);
            default:
                throw new IllegalArgumentException();
        }
    }

    public int used(int kit) throws IndexOutOfBoundsException {
        needKit(kit);
        return opened ? shelf.userOf(kit) : NONE;
    }

    public void tear() {
        journal.tearNext();
    }

    public int mount() throws IllegalStateException {
        if (!journal.down) {
            throw new IllegalStateException();
        }
        journal.down = false;
        return journal.records;
    }

    private static boolean areWeights(int a, int b, int c, int d) {
        boolean inRange = isWeight(a, 1) && isWeight(b, 1) && isWeight(c, 0) && isWeight(d, 0);
        return inRange && (c != 0 || d == 0);
    }

    private static boolean isWeight(int weight, int least) {
        return weight >= least && weight <= MAX_WEIGHT;
    }

    private static boolean isSize(int size, int total) {
        return size >= 1 && size <= MAX_SIZE && total >= 1 && size % total == 0;
    }

    private boolean isAnyBlockTaken() {
        for (int number = 0; number < strata.length; number++) {
            if (stratumAt(number).taken > 0) {
                return true;
            }
        }
        return false;
    }

    private Site siteAt(int site) {
        if (site < 0 || site >= sites.length || sites[site] == null) {
            throw new IndexOutOfBoundsException();
        }
        return sites[site];
    }

    private Stratum stratumAt(int stratum) {
        if (stratum < 0 || stratum >= strata.length || strata[stratum] == null) {
            throw new IndexOutOfBoundsException();
        }
        return strata[stratum];
    }

    private void needArm(int arm) {
        int end = plan.armCount == 0 ? ARMS : plan.armCount;
        if (arm < 0 || arm >= end) {
            throw new IndexOutOfBoundsException();
        }
    }

    private static void needKit(int kit) {
        if (kit < 0 || kit >= KITS) {
            throw new IndexOutOfBoundsException();
        }
    }

    private static void needPerson(int person) {
        if (person < 0 || person >= PEOPLE) {
            throw new IndexOutOfBoundsException();
        }
    }

    private static void needHolder(int holder) {
        if (holder < 0 || holder >= HOLDERS) {
            throw new IndexOutOfBoundsException();
        }
    }

    private void needPlan() {
        if (plan.armCount == 0) {
            throw new IllegalStateException();
        }
    }

    /** Picks a kit for each entry of the stratum's next block, without marking any; false if one lacks. */
    private boolean pickKits(int site, Stratum row) {
        if (row.armAhead(0) == NONE) {
            return false;
        }
        // Arm by arm, since an arm's next pick then lies behind its last one.
        for (int arm = 0; arm < plan.armCount; arm++) {
            int kit = NONE;
            for (int i = 0; i < plan.size && i < picked.length; i++) {
                if (row.armAhead(i) == arm) {
                    kit = shelf.leastFree(site, arm, kit + 1);
                    if (kit == NONE) {
                        return false;
                    }
                    picked[i] = kit;
                }
            }
        }
        return true;
    }

    /** The arms with their weights, and the size of a block; no arms at first. */
    private static final class Plan {
        private final int[] weights = new int[ARMS];
        private int armCount;
        private int total;
        private int size;

        void set(int a, int b, int c, int d, int newSize) {
            weights[0] = a;
            weights[1] = b;
            weights[2] = c;
            weights[3] = d;
            armCount = 2 + (c > 0 ? 1 : 0) + (d > 0 ? 1 : 0);
            total = a + b + c + d;
            size = newSize;
        }

        int weightOf(int arm) {
            return arm >= 0 && arm < weights.length ? weights[arm] : 0;
        }

        int entriesOf(int arm) {
            return total > 0 ? weightOf(arm) * (size / total) : 0;
        }
    }

    /** Counts the records, and tears the one that is to be torn. */
    private static final class Journal {
        private boolean down;
        private boolean tearing;
        private int records;

        void tearNext() {
            if (!down) {
                tearing = true;
            }
        }

        /** Whether the record is whole: if it is not, the desk is down and the call must not be done. */
        boolean write() {
            if (tearing) {
                tearing = false;
                down = true;
                return false;
            }
            records++;
            return true;
        }
    }

    /** All kits: where each is, for which arm, in which state (0 before it comes), and who uses it. */
    private static final class Shelf {
        private final int[] homes = new int[KITS];
        private final int[] forArm = new int[KITS];
        private final int[] states = new int[KITS];
        private final int[] users = new int[KITS];

        boolean hasAny(int from, int number) {
            for (int i = 0; i < number; i++) {
                if (isKit(from + i) && states[from + i] != 0) {
                    return true;
                }
            }
            return false;
        }

        void put(int site, int arm, int from, int number) {
            for (int i = 0; i < number; i++) {
                if (isKit(from + i)) {
                    homes[from + i] = site;
                    forArm[from + i] = arm;
                    states[from + i] = FREE;
                }
            }
        }

        int tally(int site, int state) {
            int number = 0;
            for (int kit = 0; kit < KITS; kit++) {
                if (states[kit] == state && homes[kit] == site) {
                    number++;
                }
            }
            return number;
        }

        int tallyFree(int site, int arm) {
            int number = 0;
            for (int kit = 0; kit < KITS; kit++) {
                if (isFree(kit, site, arm)) {
                    number++;
                }
            }
            return number;
        }

        /** The least free kit of the arm at the site that is not below from; NONE if there is none. */
        int leastFree(int site, int arm, int from) {
            for (int kit = Math.max(from, 0); kit < KITS; kit++) {
                if (isFree(kit, site, arm)) {
                    return kit;
                }
            }
            return NONE;
        }

        void use(int kit, int person) {
            if (isKit(kit)) {
                states[kit] = USED;
                users[kit] = person;
            }
        }

        void markAll(int[] kits, int number) {
            for (int i = 0; i < number && i < kits.length; i++) {
                if (isKit(kits[i])) {
                    states[kits[i]] = MARKED;
                }
            }
        }

        void freeMarked(int site) {
            for (int kit = 0; kit < KITS; kit++) {
                if (states[kit] == MARKED && homes[kit] == site) {
                    states[kit] = FREE;
                }
            }
        }

        int armOf(int kit) {
            return isKit(kit) ? forArm[kit] : NONE;
        }

        int userOf(int kit) {
            return isKit(kit) && states[kit] == USED ? homes[kit] * PEOPLE + users[kit] : NONE;
        }

        private boolean isFree(int kit, int site, int arm) {
            return isKit(kit) && states[kit] == FREE && homes[kit] == site && forArm[kit] == arm;
        }

        private static boolean isKit(int kit) {
            return kit >= 0 && kit < KITS;
        }
    }

    /** A site's people with their keys, and its reserves; a person's standing is 0 before the person is allotted. */
    private static final class Site {
        private final int[] standing = new int[PEOPLE];
        private final int[] inStratum = new int[PEOPLE];
        private final int[] withArm = new int[PEOPLE];
        private final int[] keyHolders = new int[PEOPLE];
        private final Reserve[] reserves = new Reserve[STRATA];
        private boolean closed;

        Site() {
            for (int stratum = 0; stratum < reserves.length; stratum++) {
                reserves[stratum] = new Reserve();
            }
        }

        boolean isAllotted(int person) {
            return isPerson(person) && standing[person] != 0;
        }

        boolean isKnown(int person) {
            return isPerson(person) && standing[person] == REPORTED;
        }

        void enrol(int person, int stratum, int arm, int newStanding) {
            if (isPerson(person)) {
                standing[person] = newStanding;
                inStratum[person] = stratum;
                withArm[person] = arm;
            }
        }

        /** Makes a person known who was allotted but is not known yet; false if this is none. */
        boolean tell(int person) {
            if (isPerson(person) && standing[person] == UNREPORTED) {
                standing[person] = REPORTED;
                return true;
            }
            return false;
        }

        int stratumOf(int person) {
            return isPerson(person) ? inStratum[person] : 0;
        }

        int armOf(int person) {
            return isPerson(person) ? withArm[person] : NONE;
        }

        void addKey(int person, int holder) {
            if (isPerson(person)) {
                keyHolders[person] |= 1 << holder;
            }
        }

        int keyCount(int person) {
            return isPerson(person) ? Integer.bitCount(keyHolders[person]) : 0;
        }

        Reserve reserveFor(int stratum) {
            if (stratum < 0 || stratum >= reserves.length || reserves[stratum] == null) {
                throw new IndexOutOfBoundsException();
            }
            return reserves[stratum];
        }

        int entriesLeft() {
            int left = 0;
            for (int stratum = 0; stratum < reserves.length; stratum++) {
                Reserve held = reserveFor(stratum);
                left += held.length - held.next;
            }
            return left;
        }

        void dropReserves() {
            for (int stratum = 0; stratum < reserves.length; stratum++) {
                reserveFor(stratum).drop();
            }
        }

        private static boolean isPerson(int person) {
            return person >= 0 && person < PEOPLE;
        }
    }

    /** The kits of a reserved block, in the order of its entries; its length is 0 when there is no reserve. */
    private static final class Reserve {
        private final int[] entryKits = new int[MAX_SIZE];
        private int length;
        private int next;

        void fill(int[] kits, int number) {
            for (int i = 0; i < number && i < kits.length && i < entryKits.length; i++) {
                entryKits[i] = kits[i];
            }
            length = number;
            next = 0;
        }

        int nextKit() {
            return next >= 0 && next < length && next < entryKits.length ? entryKits[next] : NONE;
        }

        void drop() {
            length = 0;
            next = 0;
        }
    }

    /**
     * A stratum's list, the desk's open block in it, and how many are known with each arm.
     * A block may be built before it is taken: looking at it changes nothing that can be seen.
     */
    private static final class Stratum {
        private final int number;
        private final int[] known = new int[ARMS];
        // A plan without arms at first, so that there always is one.
        private Plan plan = new Plan();
        private int[] list = new int[0];
        private long word;
        private int built;
        private int taken;
        private int openNext;
        private int openLeft;

        Stratum(int number) {
            this.number = number;
        }

        void restart(Plan told, long seed) {
            plan = told;
            word = seed ^ (number + 1) * STRATUM_STEP;
            if (word == 0) {
                word = 1;
            }
            built = 0;
        }

        int nextArm() {
            return openLeft > 0 ? armAt(openNext) : armAhead(0);
        }

        /** The arm of entry i of the next block that was not taken; NONE if there is none. */
        int armAhead(int i) {
            if (taken == built) {
                build();
            }
            return armAt(taken * plan.size + i);
        }

        int takenArm(int i) {
            return i < taken * plan.size ? armAt(i) : NONE;
        }

        void takeEntry() {
            if (openLeft == 0) {
                openNext = takeBlock() * plan.size;
                openLeft = plan.size;
            }
            openNext++;
            openLeft--;
        }

        /** The number of the block that is taken by this. */
        int takeBlock() {
            taken++;
            return taken - 1;
        }

        void addKnown(int arm) {
            if (arm >= 0 && arm < known.length) {
                known[arm]++;
            }
        }

        int knownWith(int arm) {
            return arm >= 0 && arm < known.length ? known[arm] : 0;
        }

        int widestGap() {
            int widest = 0;
            for (int one = 0; one < plan.armCount; one++) {
                for (int other = one + 1; other < plan.armCount; other++) {
                    int gap = knownWith(one) * plan.weightOf(other) - knownWith(other) * plan.weightOf(one);
                    widest = Math.max(widest, Math.abs(gap));
                }
            }
            return widest;
        }

        private int armAt(int i) {
            return i >= 0 && i < built * plan.size && i < list.length ? list[i] : NONE;
        }

        private void build() {
            if (built >= MAX_BLOCKS) {
                return;
            }
            int from = built * plan.size;
            makeRoom(from + plan.size);
            layArms(from);
            shuffle(from);
            built++;
        }

        private void makeRoom(int wanted) {
            if (wanted > list.length && wanted <= MAX_BLOCKS * MAX_SIZE) {
                // Twice as long, so that all rows together stay within twice the last one.
                list = Arrays.copyOf(list, Math.max(wanted, 2 * list.length));
            }
        }

        private void layArms(int from) {
            int at = from;
            for (int arm = 0; arm < plan.armCount; arm++) {
                int end = at + plan.entriesOf(arm);
                while (at < end && at >= 0 && at < list.length) {
                    list[at] = arm;
                    at++;
                }
            }
        }

        private void shuffle(int from) {
            for (int i = plan.size - 1; i >= 1; i--) {
                swap(from + i, from + draw(i + 1));
            }
        }

        private void swap(int i, int j) {
            if (i >= 0 && i < list.length && j >= 0 && j < list.length) {
                int kept = list[i];
                list[i] = list[j];
                list[j] = kept;
            }
        }

        /** A draw below n. */
        private int draw(int n) {
            if (n < 1) {
                return 0;
            }
            long end = DRAW_RANGE / n * n;
            for (int tries = 0; tries < MAX_TRIES; tries++) {
                word ^= word << 13;
                word ^= word >>> 7;
                word ^= word << 17;
                long upper = word >>> 33;
                if (upper < end) {
                    return (int) (upper % n);
                }
            }
            return 0;
        }
    }
}
