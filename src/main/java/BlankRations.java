/**
 * A post office where blank paper is rationed to those who have thought.
 * The words in capitals are those of the document (../shared/DOC.md).
 */
public final class BlankRations {
    public static final int BAD = -1, FULL = -2, NONE = -3;

    private static final int NO_ROW = -9;
    private static final int MISSING = -11;
    private static final int OUTSIDE = -12;
    private static final int OTHER_SORT = -13;
    private static final int SIZE_BELOW_NOTHING = -14;
    private static final int PARTED_BY_NOTHING = -15;
    private static final int FAULT_BASE = -100;

    private static final int ASKER = 0;
    private static final int NOVELIST = 1;
    private static final int WIDOW = 2;
    private static final int POET = 3;
    private static final int SISTER = 4;
    private static final int BOY = 5;

    private static final int VAN = 0;
    private static final int LINES = 1;
    private static final int RUB = 2;
    private static final int SLIP = 3;
    private static final int[] LAW_MOST = {9, 9, 9, 99};
    private static final int[] LAW_FIRST = {3, 2, 1, 20};

    private static final int MOST_PEOPLE = 8;
    private static final int EVERYBODY = 255;
    private static final int MOST_THOUGHT = 99;
    private static final int MOST_HAND = 9;
    private static final int MOST_PAGES = 99;
    private static final int MOST_GOT = 9999;
    private static final int MOST_SAID = 99999;
    private static final int MOST_BACK = 9999;

    private static final int LONG_TRIAL = 60;
    private static final int TRIAL = 20;
    private static final int SHORT_TRIAL = 10;
    private static final int MOST_POOR = 30;
    private static final int MOST_ASKED_WORDS = 9999;
    private static final int MOST_ODDS = 8;
    private static final int MOST_HOPE = 99;
    private static final int HUNDRED = 100;
    private static final int ANY = -1;
    private static final int MORE_THAN_ANY_PACKING = 9999;

    private static final int MOST_ROWS = 10;
    private static final int ROW_PARTS = 3;
    private static final int PLACES = 4;
    private static final int NO_SORT = -1;
    private static final int BYTES = 0;
    private static final int SHORTS = 1;
    private static final int LONGS = 3;
    private static final int MOST_ITEMS = 40;
    private static final int AS_ROW = 10;
    private static final int HOLDS_PERSON = 0;
    private static final int HOLDS_ROW = 1;
    private static final int HOLDS_NOTHING = 2;
    private static final int LAST_ACT = 3;
    private static final int MOST_BODIES = 30;

    private final Office now;
    private final Office kept;
    private final Office tried;
    private final Tape tape;
    private final Actor actor;
    private final Sheet[] sheets;
    private final Shelf[] shelves;
    private final int[] rows;
    private final int[] packings;
    private int rowCount;
    private boolean isKept;

    public BlankRations() {
        now = new Office();
        kept = new Office();
        tried = new Office();
        tape = new Tape();
        actor = new Actor();
        sheets = new Sheet[PLACES];
        shelves = new Shelf[PLACES];
        for (int i = 0; i < PLACES; i++) {
            sheets[i] = new Sheet();
            shelves[i] = new Shelf();
        }
        rows = new int[MOST_ROWS * ROW_PARTS];
        packings = new int[EVERYBODY + 1];
    }

    // ---- the tape

    public int feed(long eight, int n) {
        if (!isWithin(n, 1, 8)) {
            return BAD;
        }
        return tape.take(eight, n) ? tape.size : FULL;
    }

    public int post() {
        tried.begin();
        tried.z = now.z;
        int fault = tape.tell(tried);
        tape.size = 0;
        if (fault >= 0) {
            return FAULT_BASE - fault;
        }
        now.become(tried);
        rowCount = 0;
        return now.count;
    }

    // ---- laws and people

    public int set(int law, int v) {
        if (!isWithin(law, VAN, SLIP) || !isWithin(v, 0, LAW_MOST[law])) {
            return BAD;
        }
        int was = now.laws[law];
        now.laws[law] = v;
        return was;
    }

    public int lawOf(int law) {
        return isWithin(law, VAN, SLIP) ? now.laws[law] : BAD;
    }

    public int person(int kind, int thought, int hand, int pages) {
        if (!isKind(kind) || !isWithin(thought, 0, MOST_THOUGHT)
                || !isWithin(hand, 0, MOST_HAND) || !isWithin(pages, 0, MOST_PAGES)) {
            return BAD;
        }
        if (now.count >= MOST_PEOPLE) {
            return FULL;
        }
        now.add(kind, thought, hand, pages);
        return now.count - 1;
    }

    public int of(int person, int what) {
        if (!now.has(person)) {
            return BAD;
        }
        switch (what) {
            case 0: return now.kinds[person];
            case 1: return now.thoughts[person];
            case 2: return now.hands[person];
            case 3: return now.pages[person];
            case 4: return now.gots[person];
            case 5: return now.saids[person];
            default: return BAD;
        }
    }

    public int does(int person, int what) {
        if (!now.has(person)) {
            return BAD;
        }
        switch (what) {
            case 0: return 1000 + now.thinking(person);
            case 1: return 1000 + now.needing(person);
            case 2: return 1000 + now.saying(person);
            case 3: return now.isUsing(person) ? 1001 : 1000;
            default: return BAD;
        }
    }

    public int mind(int person, int kind, int hand) {
        if (!now.has(person) || !isKind(kind) || !isWithin(hand, 0, MOST_HAND)) {
            return BAD;
        }
        int was = now.kinds[person];
        now.kinds[person] = kind;
        now.hands[person] = hand;
        return was;
    }

    public int thought(int person, int v) {
        if (!now.has(person) || !isWithin(v, 0, MOST_THOUGHT)) {
            return BAD;
        }
        int was = now.thoughts[person];
        now.thoughts[person] = v;
        return was;
    }

    public int own(int person, int v) {
        if (!now.has(person) || !isWithin(v, 0, MOST_PAGES)) {
            return BAD;
        }
        int was = now.pages[person];
        now.pages[person] = v;
        return was;
    }

    public int give(int person, int other) {
        if (!now.has(person) || !now.has(other) || person == other) {
            return BAD;
        }
        if (now.pages[person] == 0 || now.pages[other] >= MOST_PAGES) {
            return NONE;
        }
        now.pages[person]--;
        now.pages[other]++;
        return now.pages[other];
    }

    // ---- weeks

    public int weeks(int n) {
        if (!isWithin(n, 1, LONG_TRIAL)) {
            return BAD;
        }
        for (int i = 0; i < n; i++) {
            now.passWeek(EVERYBODY);
        }
        return now.sumOf(now.pages);
    }

    public int seed(int v) {
        int was = now.z;
        now.z = v;
        return was;
    }

    public int week() {
        return now.passWeekByDraws();
    }

    public int poor(int n) {
        if (!isWithin(n, 1, MOST_POOR)) {
            return BAD;
        }
        int due = wordsBy(trial(), 1, EVERYBODY);
        int z = now.z;
        int poor = 0;
        for (int i = 0; i < n; i++) {
            Office office = trial();
            office.z = z;
            if (office.passWeekByDraws() < due) {
                poor++;
            }
            z = office.z;
        }
        return poor;
    }

    public int state(int what) {
        switch (what) {
            case 0: return now.week;
            case 1: return now.back;
            case 2: return now.sumOf(now.saids);
            case 3: return now.sumOf(now.pages);
            case 4: return now.sumOf(now.thoughts);
            case 5: return now.readySet();
            default: return BAD;
        }
    }

    // ---- what is tried

    public int words(int n) {
        return isWithin(n, 0, LONG_TRIAL) ? wordsBy(trial(), n, EVERYBODY) : BAD;
    }

    public int gets(int person) {
        if (!now.has(person)) {
            return BAD;
        }
        Office office = trial();
        for (int n = 1; n <= LONG_TRIAL; n++) {
            office.passWeek(EVERYBODY);
            if (office.gots[person] > now.gots[person]) {
                return n;
            }
        }
        return NONE;
    }

    public int idle() {
        Office office = trial();
        for (int n = 0; n <= LONG_TRIAL; n++) {
            if (office.countOf(office.pages) == 0) {
                return n;
            }
            office.passWeek(EVERYBODY);
        }
        return NONE;
    }

    public int vanFor(int n, int v) {
        if (!isWithin(n, 1, TRIAL) || !isWithin(v, 0, MOST_ASKED_WORDS)) {
            return BAD;
        }
        for (int van = 0; van <= LAW_MOST[VAN]; van++) {
            Office office = trial();
            office.laws[VAN] = van;
            if (wordsBy(office, n, EVERYBODY) >= v) {
                return van;
            }
        }
        return NONE;
    }

    public int kindFor(int person, int n) {
        if (!now.has(person) || !isWithin(n, 1, TRIAL)) {
            return BAD;
        }
        int best = ASKER;
        int most = -1;
        for (int kind = ASKER; kind <= BOY; kind++) {
            Office office = trial();
            office.kinds[person] = kind;
            int said = wordsBy(office, n, EVERYBODY);
            if (said > most) {
                most = said;
                best = kind;
            }
        }
        return best;
    }

    public int thoughtFor(int person, int n) {
        if (!now.has(person) || !isWithin(n, 1, TRIAL)) {
            return BAD;
        }
        for (int thought = 0; thought <= MOST_THOUGHT; thought++) {
            Office office = trial();
            office.thoughts[person] = thought;
            // counted from 0, so that a GOT held at its most hides no page
            office.gots[person] = 0;
            for (int i = 0; i < n && office.gots[person] == 0; i++) {
                office.passWeek(EVERYBODY);
            }
            if (office.gots[person] > 0) {
                return thought;
            }
        }
        return NONE;
    }

    public int needed(int n) {
        if (!isWithin(n, 1, TRIAL)) {
            return BAD;
        }
        int needed = NONE;
        int least = wordsBy(trial(), n, EVERYBODY);
        for (int i = 0; i < now.count; i++) {
            int said = wordsBy(trial(), n, EVERYBODY & ~(1 << i));
            if (said < least) {
                least = said;
                needed = i;
            }
        }
        return needed;
    }

    public int fewest(int n, int v) {
        if (!isWithin(n, 1, SHORT_TRIAL) || !isWithin(v, 0, MOST_ASKED_WORDS)) {
            return BAD;
        }
        int sets = 1 << now.count;
        for (int size = 0; size <= now.count; size++) {
            for (int set = 0; set < sets; set++) {
                if (Integer.bitCount(set) == size && wordsBy(trial(), n, set) >= v) {
                    return set;
                }
            }
        }
        return NONE;
    }

    public int packed(int r) {
        if (!isWithin(r, 1, MOST_THOUGHT)) {
            return BAD;
        }
        for (int i = 0; i < now.count; i++) {
            if (now.thoughts[i] > r) {
                return NONE;
            }
        }
        // without anybody the last page counts as full, so that the first THOUGHT opens one
        packings[0] = r;
        int sets = 1 << now.count;
        for (int set = 1; set < sets; set++) {
            packings[set] = leastPacking(set, r);
        }
        return packings[sets - 1] / HUNDRED;
    }

    public int fits(int sheet, int person, int what) {
        if (!isPlace(sheet) || !now.has(person) || !isWithin(what, 0, 1)) {
            return BAD;
        }
        Sheet told = sheets[sheet];
        if (told.sort == NO_SORT) {
            return MISSING;
        }
        int many = 0;
        int least = NONE;
        for (int thought = 0; thought <= MOST_THOUGHT; thought++) {
            if (isTold(told, person, thought)) {
                least = many == 0 ? thought : least;
                many++;
            }
        }
        return what == 0 ? many : least;
    }

    // ---- odds of slips

    public long odds(int n, int k, int part) {
        if (!isWithin(n, 0, MOST_ODDS) || !isWithin(k, 0, n) || !isWithin(part, 0, 1)) {
            return BAD;
        }
        int slip = now.laws[SLIP];
        long above = 1;
        long below = 1;
        for (int i = 0; i < n; i++) {
            above *= i < k ? slip : HUNDRED - slip;
            below *= HUNDRED;
        }
        return partOf(above * choices(n, k), below, part);
    }

    public long hope(int n, int part) {
        if (!isWithin(n, 0, MOST_HOPE) || !isWithin(part, 0, 1)) {
            return BAD;
        }
        return partOf((long) n * now.laws[SLIP], HUNDRED, part);
    }

    // ---- rows of weeks

    public int prove(int person, int n) {
        if (!now.has(person) || !isWithin(n, 1, MOST_ROWS)) {
            return BAD;
        }
        Office office = trial();
        for (int i = 0; i < n; i++) {
            int said = office.passWeek(EVERYBODY);
            rows[i * ROW_PARTS] = office.thoughts[person];
            rows[i * ROW_PARTS + 1] = office.pages[person];
            rows[i * ROW_PARTS + 2] = said;
        }
        rowCount = n;
        return n;
    }

    public int row(int i, int what) {
        return isInRow(i, what) ? rows[i * ROW_PARTS + what] : NO_ROW;
    }

    public int alterRow(int i, int what, int v) {
        if (!isInRow(i, what)) {
            return NO_ROW;
        }
        int was = rows[i * ROW_PARTS + what];
        rows[i * ROW_PARTS + what] = v;
        return was;
    }

    public int judge(int person) {
        if (!now.has(person)) {
            return BAD;
        }
        Office office = trial();
        for (int i = 0; i < rowCount; i++) {
            int said = office.passWeek(EVERYBODY);
            if (rows[i * ROW_PARTS] != office.thoughts[person]
                    || rows[i * ROW_PARTS + 1] != office.pages[person]
                    || rows[i * ROW_PARTS + 2] != said) {
                return i + 1;
            }
        }
        return 0;
    }

    // ---- sheets, shelves and acts

    public int minds(int sheet, int i, int person, int n) {
        if (!isPlace(sheet) || !now.has(person) || !isWithin(n, 0, MOST_PEOPLE)
                || n > now.count - person) {
            return BAD;
        }
        Sheet told = sheets[sheet];
        if (told.sort == NO_SORT) {
            return MISSING;
        }
        if (told.sort != BYTES) {
            return OTHER_SORT;
        }
        if (!isWithin(i, 0, told.size) || n > told.size - i) {
            return OUTSIDE;
        }
        for (int k = 0; k < n; k++) {
            int thought = (int) told.items[i + k];
            now.thoughts[person + k] = Math.max(0, Math.min(MOST_THOUGHT, thought));
        }
        return n;
    }

    public int sheet(int sheet, int sort, int n) {
        if (!isPlace(sheet) || !isWithin(sort, NO_SORT, LONGS)) {
            return BAD;
        }
        if (sort == NO_SORT) {
            sheets[sheet].sort = NO_SORT;
            return 1;
        }
        if (n > MOST_ITEMS) {
            return BAD;
        }
        if (n < 0) {
            return SIZE_BELOW_NOTHING;
        }
        sheets[sheet].begin(sort, n);
        return 1;
    }

    public int put(int sheet, int i, int v) {
        if (!isPlace(sheet)) {
            return BAD;
        }
        Sheet told = sheets[sheet];
        if (told.sort == NO_SORT) {
            return MISSING;
        }
        if (!isWithin(i, 0, told.size - 1)) {
            return OUTSIDE;
        }
        told.items[i] = narrowed(told.sort, v);
        return 1;
    }

    public int item(int sheet, int sort, int i) {
        if (!isPlace(sheet) || !isWithin(sort, BYTES, LONGS)) {
            return BAD;
        }
        Sheet told = sheets[sheet];
        if (told.sort == NO_SORT) {
            return MISSING;
        }
        if (told.sort != sort) {
            return OTHER_SORT;
        }
        return isWithin(i, 0, told.size - 1) ? (int) told.items[i] : OUTSIDE;
    }

    public int shelf(int shelf, int what, int n) {
        if (!isPlace(shelf)) {
            return BAD;
        }
        if (what == HOLDS_PERSON && now.has(n)) {
            shelves[shelf].holdPerson(n);
            return 1;
        }
        if (what == HOLDS_ROW && isPlace(n)) {
            shelves[shelf].holdRow(sheets[n]);
            return 1;
        }
        if (what == HOLDS_NOTHING) {
            shelves[shelf].what = HOLDS_NOTHING;
            return 1;
        }
        return BAD;
    }

    public int taken(int shelf, int as) {
        boolean asRow = isWithin(as, AS_ROW + BYTES, AS_ROW + LONGS);
        if (!isPlace(shelf) || !isKind(as) && !asRow) {
            return BAD;
        }
        Shelf held = shelves[shelf];
        if (held.what == HOLDS_ROW) {
            return held.sort == as - AS_ROW ? held.size : OTHER_SORT;
        }
        if (held.what == HOLDS_NOTHING || !now.has(held.number)) {
            return MISSING;
        }
        boolean suits = !asRow && isUnder(now.kinds[held.number], as);
        return suits ? held.number : OTHER_SORT;
    }

    public int act(int shelf, int act, int x) {
        actor.forget();
        if (!isPlace(shelf) || !isWithin(act, 0, LAST_ACT)) {
            return 0;
        }
        Shelf held = shelves[shelf];
        if (held.what != HOLDS_PERSON || !now.has(held.number)) {
            return 0;
        }
        int person = held.number;
        actor.play(now.kinds[person], person, now.hands[person]);
        int answer = actor.perform(act, x);
        return actor.isStopped ? PARTED_BY_NOTHING : answer;
    }

    public int trace(int i) {
        return isWithin(i, 0, actor.ran - 1) ? actor.bodies[i] : NONE;
    }

    public int many(int what) {
        switch (what) {
            case 0: return now.count;
            case 1: return now.countOf(now.pages);
            case 2: return now.countOf(now.gots);
            case 3: return Integer.bitCount(now.readySet());
            case 4: return rowCount;
            case 5: return tape.size;
            case 6: return actor.ran;
            default: return BAD;
        }
    }

    // ---- post offices kept

    public int keep() {
        kept.become(now);
        isKept = true;
        return 1;
    }

    public int again() {
        if (!isKept) {
            return NONE;
        }
        now.become(kept);
        return now.count;
    }

    // ---- helpers

    private static boolean isWithin(int v, int least, int most) {
        return v >= least && v <= most;
    }

    private static boolean isKind(int kind) {
        return isWithin(kind, ASKER, BOY);
    }

    private static boolean isPlace(int place) {
        return isWithin(place, 0, PLACES - 1);
    }

    /** Whether a KIND is that other one, or stands under it. */
    private static boolean isUnder(int kind, int base) {
        return kind == base || base == ASKER
                || base == NOVELIST && kind == POET
                || base == WIDOW && kind == SISTER;
    }

    private boolean isInRow(int i, int what) {
        return isWithin(i, 0, rowCount - 1) && isWithin(what, 0, ROW_PARTS - 1);
    }

    /** One and the same Office serves every trial, so that trials make no objects. */
    private Office trial() {
        tried.become(now);
        return tried;
    }

    private static int wordsBy(Office office, int n, int mayGet) {
        int said = 0;
        for (int i = 0; i < n; i++) {
            said += office.passWeek(mayGet);
        }
        return said;
    }

    private boolean isTold(Sheet told, int person, int thought) {
        Office office = trial();
        office.thoughts[person] = thought;
        int said = 0;
        for (int i = 0; i < told.size; i++) {
            said += office.passWeek(EVERYBODY);
            if (told.items[i] != ANY && told.items[i] != said) {
                return false;
            }
        }
        return true;
    }

    /**
     * The pages of a set times 100, and how full the last one is: the least such number.
     * Whoever comes last in the best order stands behind the best packing of the others.
     */
    private int leastPacking(int set, int r) {
        int least = MORE_THAN_ANY_PACKING;
        for (int i = 0; i < now.count; i++) {
            if ((set >> i & 1) == 0) {
                continue;
            }
            int before = packings[set & ~(1 << i)];
            int thought = now.thoughts[i];
            int fits = before + thought;
            int opens = (before / HUNDRED + 1) * HUNDRED + thought;
            least = Math.min(least, before % HUNDRED + thought <= r ? fits : opens);
        }
        return least;
    }

    /** How many sets of k there are among n. */
    private static long choices(int n, int k) {
        long choices = 1;
        for (int i = 1; i <= k; i++) {
            choices = choices * (n - k + i) / i;
        }
        return choices;
    }

    private static long partOf(long above, long below, int part) {
        long divisor = commonDivisor(above, below);
        long whole = part == 0 ? above : below;
        return divisor > 0 ? whole / divisor : whole;
    }

    private static long commonDivisor(long a, long b) {
        long divisor = a;
        long rest = b;
        // Euclid's steps on longs are fewer than a hundred
        for (int i = 0; i < HUNDRED && rest != 0; i++) {
            long next = divisor % rest;
            divisor = rest;
            rest = next;
        }
        return divisor;
    }

    private static long narrowed(int sort, int v) {
        if (sort == BYTES) {
            return (byte) v;
        }
        return sort == SHORTS ? (short) v : v;
    }

    /** All that is kept: LAWS, PEOPLE, WEEK, BACK and z. */
    private static final class Office {
        final int[] laws = new int[LAW_FIRST.length];
        final int[] kinds = new int[MOST_PEOPLE];
        final int[] thoughts = new int[MOST_PEOPLE];
        final int[] hands = new int[MOST_PEOPLE];
        final int[] pages = new int[MOST_PEOPLE];
        final int[] gots = new int[MOST_PEOPLE];
        final int[] saids = new int[MOST_PEOPLE];
        private final int[] needs = new int[MOST_PEOPLE];
        int count;
        int week;
        int back;
        int z;

        Office() {
            begin();
            z = 1;
        }

        /** All is as at first, but for z. */
        void begin() {
            System.arraycopy(LAW_FIRST, 0, laws, 0, laws.length);
            count = 0;
            week = 0;
            back = 0;
        }

        void become(Office other) {
            System.arraycopy(other.laws, 0, laws, 0, laws.length);
            System.arraycopy(other.kinds, 0, kinds, 0, MOST_PEOPLE);
            System.arraycopy(other.thoughts, 0, thoughts, 0, MOST_PEOPLE);
            System.arraycopy(other.hands, 0, hands, 0, MOST_PEOPLE);
            System.arraycopy(other.pages, 0, pages, 0, MOST_PEOPLE);
            System.arraycopy(other.gots, 0, gots, 0, MOST_PEOPLE);
            System.arraycopy(other.saids, 0, saids, 0, MOST_PEOPLE);
            count = other.count;
            week = other.week;
            back = other.back;
            z = other.z;
        }

        /** For fewer than eight PEOPLE only. */
        void add(int kind, int thought, int hand, int owned) {
            kinds[count] = kind;
            thoughts[count] = thought;
            hands[count] = hand;
            pages[count] = owned;
            gots[count] = 0;
            saids[count] = 0;
            count++;
        }

        boolean has(int person) {
            return isWithin(person, 0, count - 1);
        }

        int sumOf(int[] values) {
            int sum = 0;
            for (int i = 0; i < count; i++) {
                sum += values[i];
            }
            return sum;
        }

        /** How many of PEOPLE have a value above 0. */
        int countOf(int[] values) {
            int many = 0;
            for (int i = 0; i < count; i++) {
                if (values[i] > 0) {
                    many++;
                }
            }
            return many;
        }

        /** The set of those whose THOUGHT is what it NEEDS or more. */
        int readySet() {
            int set = 0;
            for (int i = 0; i < count; i++) {
                if (thoughts[i] >= needing(i)) {
                    set |= 1 << i;
                }
            }
            return set;
        }

        int thinking(int person) {
            int kind = kinds[person];
            int thinks = 2;
            if (isUnder(kind, NOVELIST)) {
                thinks += 1;
            }
            if (kind == POET) {
                thinks *= 2;
            }
            if (isUnder(kind, WIDOW)) {
                thinks -= 1;
            }
            if (kind == SISTER) {
                thinks += laws[RUB];
            }
            if (kind == BOY) {
                thinks += hands[person];
            }
            return thinks;
        }

        int needing(int person) {
            int kind = kinds[person];
            int need = 10;
            if (isUnder(kind, NOVELIST)) {
                need += laws[LINES];
            }
            if (kind == POET) {
                need -= hands[person];
            }
            if (isUnder(kind, WIDOW)) {
                need *= 2;
            }
            if (kind == SISTER) {
                need -= 5;
            }
            if (kind == BOY) {
                need -= 7;
            }
            return need;
        }

        int saying(int person) {
            int kind = kinds[person];
            if (kind == BOY) {
                return 0;
            }
            int says = 1 + hands[person];
            if (isUnder(kind, NOVELIST)) {
                says *= 2;
            }
            if (kind == POET) {
                says -= 1;
            }
            if (isUnder(kind, WIDOW)) {
                says += laws[RUB];
            }
            if (kind == SISTER) {
                says += Math.max(0, pages[person] - 1);
            }
            return says;
        }

        /** Whether one uses up a page by writing in this WEEK. */
        boolean isUsing(int person) {
            int kind = kinds[person];
            if (kind == BOY) {
                return false;
            }
            if (kind == SISTER && week % 3 != 0) {
                return false;
            }
            return !isUnder(kind, WIDOW) || week % 2 != 0;
        }

        /** A WEEK in which the van has pages for the people of a set alone: what all say in it. */
        int passWeek(int mayGet) {
            think();
            handOut(mayGet);
            int said = speak();
            week++;
            return said;
        }

        int passWeekByDraws() {
            if (count > 0) {
                int one = draw() % count;
                if (draw() % HUNDRED < laws[SLIP]) {
                    thoughts[one] /= 2;
                }
            }
            return passWeek(EVERYBODY);
        }

        private int draw() {
            z = z * 1103515245 + 12345;
            return z >>> 16;
        }

        private void think() {
            for (int i = 0; i < count; i++) {
                thoughts[i] = Math.min(MOST_THOUGHT, thoughts[i] + thinking(i));
                needs[i] = needing(i);
            }
        }

        private void handOut(int mayGet) {
            for (int left = laws[VAN]; left > 0; left--) {
                int one = keenest(mayGet);
                if (one < 0) {
                    back = Math.min(MOST_BACK, back + left);
                    return;
                }
                pages[one]++;
                gots[one] = Math.min(MOST_GOT, gots[one] + 1);
                thoughts[one] -= needs[one];
            }
        }

        /** The one who is given the next page, or NONE. */
        private int keenest(int mayGet) {
            int one = NONE;
            int most = -1;
            for (int i = 0; i < count; i++) {
                int above = thoughts[i] - needs[i];
                if (above > most && pages[i] < MOST_PAGES && (mayGet >> i & 1) != 0) {
                    most = above;
                    one = i;
                }
            }
            return one;
        }

        private int speak() {
            int all = 0;
            for (int i = 0; i < count; i++) {
                if (pages[i] == 0) {
                    continue;
                }
                int said = saying(i);
                all += said;
                saids[i] = Math.min(MOST_SAID, saids[i] + said);
                if (isUsing(i)) {
                    pages[i]--;
                }
            }
            return all;
        }
    }

    /** THE TAPE, and the reading of its TEXT: first it is cut into tokens, then these are told. */
    private static final class Tape {
        private static final int MOST_BYTES = 200;
        private static final int BLANK = 32;
        private static final int MOST_DIGITS = 3;
        private static final int TOO_LONG = 1000;
        private static final int END_TOKEN = 0;
        private static final int NAME = 1;
        private static final int NUMBER = 2;
        private static final int SIGN = 3;
        private static final int UNKNOWN = -1;
        private static final int VAN_WORD = 6;
        private static final int SLIP_WORD = 9;
        private static final int THOUGHT_WORD = 10;
        private static final int HAND_WORD = 11;
        private static final int PAGES_WORD = 12;

        private final int[] bytes = new int[MOST_BYTES];
        private final int[] sorts = new int[MOST_BYTES + 1];
        private final int[] values = new int[MOST_BYTES + 1];
        private final int[] starts = new int[MOST_BYTES + 1];
        private int tokens;
        private int at;
        private int fault;
        int size;

        /** Whether there was room for n bytes more. */
        boolean take(long eight, int n) {
            if (n > MOST_BYTES - size) {
                return false;
            }
            for (int i = 0; i < n; i++) {
                bytes[size + i] = (int) (eight >>> 8 * i & 255);
            }
            size += n;
            return true;
        }

        /** Tells the TEXT to an Office: its FAULT, or NONE. */
        int tell(Office office) {
            cut();
            at = 0;
            fault = NONE;
            for (int i = 0; i < tokens && fault < 0 && sorts[at] != END_TOKEN; i++) {
                tellOne(office);
            }
            return fault;
        }

        private void cut() {
            tokens = 0;
            int place = 0;
            for (int i = 0; i < MOST_BYTES && place < size; i++) {
                int sign = bytes[place];
                if (sign == BLANK) {
                    place++;
                } else if (isLetter(sign)) {
                    place = cutName(place);
                } else if (isDigit(sign)) {
                    place = cutNumber(place);
                } else {
                    addToken(SIGN, sign, place);
                    place++;
                }
            }
            addToken(END_TOKEN, 0, size);
        }

        private int cutName(int start) {
            int end = start + 1;
            while (end < size && isLetter(bytes[end])) {
                end++;
            }
            addToken(NAME, wordAt(start, end - start), start);
            return end;
        }

        private int cutNumber(int start) {
            int value = 0;
            int end = start;
            while (end < size && isDigit(bytes[end])) {
                value = Math.min(TOO_LONG, value * 10 + bytes[end] - '0');
                end++;
            }
            addToken(NUMBER, end - start > MOST_DIGITS ? TOO_LONG : value, start);
            return end;
        }

        private void addToken(int sort, int value, int start) {
            if (tokens < sorts.length) {
                sorts[tokens] = sort;
                values[tokens] = value;
                starts[tokens] = start;
                tokens++;
            }
        }

        private int wordAt(int start, int length) {
            for (int word = 0; word <= PAGES_WORD; word++) {
                if (isSpelt(spelling(word), start, length)) {
                    return word;
                }
            }
            return UNKNOWN;
        }

        private boolean isSpelt(String spelling, int start, int length) {
            if (spelling.length() != length || start + length > size) {
                return false;
            }
            for (int i = 0; i < length; i++) {
                if (bytes[start + i] != spelling.charAt(i)) {
                    return false;
                }
            }
            return true;
        }

        /** The KINDS and the LAWS stand in the order of their numbers. */
        private static String spelling(int word) {
            switch (word) {
                case ASKER: return "asker";
                case NOVELIST: return "novelist";
                case WIDOW: return "widow";
                case POET: return "poet";
                case SISTER: return "sister";
                case BOY: return "boy";
                case VAN_WORD + VAN: return "van";
                case VAN_WORD + LINES: return "lines";
                case VAN_WORD + RUB: return "rub";
                case VAN_WORD + SLIP: return "slip";
                case THOUGHT_WORD: return "thought";
                case HAND_WORD: return "hand";
                case PAGES_WORD: return "pages";
                default: return "";
            }
        }

        private static boolean isLetter(int sign) {
            return isWithin(sign, 'a', 'z');
        }

        private static boolean isDigit(int sign) {
            return isWithin(sign, '0', '9');
        }

        private void tellOne(Office office) {
            int word = sorts[at] == NAME ? values[at] : UNKNOWN;
            if (isKind(word) && office.count < MOST_PEOPLE) {
                tellPerson(office, word);
            } else if (isWithin(word, VAN_WORD, SLIP_WORD)) {
                at++;
                int law = word - VAN_WORD;
                office.laws[law] = numberUpTo(LAW_MOST[law]);
            } else {
                fail();
            }
            passSemicolon();
        }

        private void tellPerson(Office office, int kind) {
            at++;
            int thought = numberBehind(THOUGHT_WORD, MOST_THOUGHT);
            int hand = numberBehind(HAND_WORD, MOST_HAND);
            int owned = numberBehind(PAGES_WORD, MOST_PAGES);
            office.add(kind, thought, hand, owned);
        }

        /** The NUMBER behind a NAME, if that NAME stands here; else 0. */
        private int numberBehind(int word, int most) {
            if (sorts[at] != NAME || values[at] != word) {
                return 0;
            }
            at++;
            return numberUpTo(most);
        }

        private int numberUpTo(int most) {
            if (sorts[at] != NUMBER || values[at] > most) {
                fail();
                return 0;
            }
            int value = values[at];
            at++;
            return value;
        }

        private void passSemicolon() {
            if (sorts[at] == SIGN && values[at] == ';') {
                at++;
            } else {
                fail();
            }
        }

        /** The first FAULT is the one that counts. */
        private void fail() {
            if (fault < 0) {
                fault = starts[at];
            }
        }
    }

    /** A row of numbers of a sort, or a missing one. */
    private static final class Sheet {
        final long[] items = new long[MOST_ITEMS];
        int sort = NO_SORT;
        int size;

        void begin(int newSort, int newSize) {
            sort = newSort;
            size = newSize;
            for (int i = 0; i < items.length; i++) {
                items[i] = 0;
            }
        }
    }

    /** What a SHELF holds: one of PEOPLE by its number, a row by its sort and size, or nothing. */
    private static final class Shelf {
        int what = HOLDS_NOTHING;
        int number;
        int sort;
        int size;

        void holdPerson(int person) {
            what = HOLDS_PERSON;
            number = person;
        }

        /** A SHEET that becomes another row later leaves this one as it is: no row changes sort or size. */
        void holdRow(Sheet row) {
            what = row.sort == NO_SORT ? HOLDS_NOTHING : HOLDS_ROW;
            sort = row.sort;
            size = row.size;
        }
    }

    /** A thing of a KIND with its ACTS, and THE TRACE that they leave. */
    private static final class Actor {
        final int[] bodies = new int[MOST_BODIES];
        int ran;
        boolean isStopped;
        private int kind;
        private int number;
        private int hand;

        void forget() {
            ran = 0;
            isStopped = false;
        }

        void play(int newKind, int newNumber, int newHand) {
            kind = newKind;
            number = newNumber;
            hand = newHand;
        }

        int perform(int act, int x) {
            switch (act) {
                case 0: return thinks(x);
                case 1: return asks(x);
                case 2: return parts(x);
                case 3: return writes(x);
                default: return 0;
            }
        }

        private void enter(int body) {
            if (ran < MOST_BODIES) {
                bodies[ran] = body;
                ran++;
            }
        }

        // Each act enters its bodies from the KIND's own down to the asker's,
        // and reckons its way back up from the asker's.

        private int thinks(int x) {
            if (kind == SISTER) {
                enter(40);
            }
            if (isUnder(kind, WIDOW)) {
                enter(30);
            }
            if (kind == POET) {
                enter(51);
            }
            enter(10);
            int thinks = x * 4 - number;
            if (isUnder(kind, WIDOW)) {
                thinks = 0 - thinks;
            }
            if (kind == SISTER) {
                thinks += 2;
            }
            if (kind == POET) {
                thinks -= hand;
            }
            return thinks;
        }

        private int asks(int x) {
            if (isUnder(kind, NOVELIST)) {
                enter(20);
            }
            if (kind == SISTER) {
                enter(41);
            }
            enter(11);
            int asks = thinks(x) + hand;
            if (isUnder(kind, NOVELIST)) {
                asks *= 3;
            }
            if (kind == SISTER) {
                asks ^= thinks(hand);
            }
            return asks;
        }

        private int parts(int x) {
            if (kind == POET) {
                enter(50);
            }
            if (kind == BOY) {
                enter(61);
            }
            enter(12);
            int by = hand - number;
            if (by == 0) {
                isStopped = true;
                return 0;
            }
            int parts = (kind == POET ? x * 2 : x) / by;
            if (kind == POET) {
                parts -= number;
            }
            if (kind == BOY) {
                parts -= thinks(number);
            }
            return parts;
        }

        private int writes(int x) {
            if (isUnder(kind, WIDOW)) {
                enter(31);
            }
            if (kind == BOY) {
                enter(60);
            }
            enter(13);
            int writes = asks(x) ^ 10;
            if (isUnder(kind, WIDOW)) {
                writes += parts(number);
            }
            if (kind == BOY) {
                writes = 8 - writes;
            }
            return writes;
        }
    }
}
