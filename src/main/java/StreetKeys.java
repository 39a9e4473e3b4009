/**
 * Who has our key: a street of houses, the keys of their locks, and who can come in by them.
 *
 * What is now is kept as the EVENTS and as what they come to; going back replays the EVENTS that
 * stay. All arrays are made with the object, so no call makes anything.
 */
public final class StreetKeys {
    public static final int BAD = -1, FULL = -2, FINDING = -3, STATE = -4, SPENT = -6, NONE = -9;

    private static final int ROWS = 6, ROW_MOST = 40, TEXTS = 4, TEXT_MOST = 120;
    private static final int HOUSES = 6, PERSONS = 12, KEYS = 24, EVENTS = 40;
    private static final int COSTS = 100, TWELFTHS = 12, TRUST_MOST = 3, MINE_MOST = 9;

    private static final int NOTHING = 1, BEYOND = 2, UNLIKE = 3, NOUGHT = 4, SIZE = 5;

    private static final int MADE = 1, COPY = 2, GIVEN = 3, LAID = 4, INSIDE = 5, CHANGED = 6, TRUST = 7;

    private static final int HELD = 0, POTTED = 1, SHUT = 2;
    private static final int ANYWHERE = -1;

    private static final int BLANK = 32;
    /** What stands outside a ROW or TEXT: no byte is like it. */
    private static final int OUTSIDE = 1000;

    private final Shelf rows;
    private final Shelf texts;
    private final Log log;
    private final Log draftLog;
    private final Present present;
    private final Scan scan;
    private final Way way;
    private final Plan plan;
    private final int[] findingCounts;
    private Street street;
    private Street draftStreet;
    private int lastFinding;
    private int lastAsked;
    private long lastUpper;
    private long lastLower;

    public StreetKeys() {
        rows = new Shelf(ROWS, ROW_MOST);
        texts = new Shelf(TEXTS, TEXT_MOST);
        log = new Log();
        draftLog = new Log();
        present = new Present();
        scan = new Scan();
        way = new Way();
        plan = new Plan();
        findingCounts = new int[SIZE + 1];
        street = new Street();
        draftStreet = new Street();
        lastFinding = 0;
        lastAsked = 0;
        lastUpper = 0L;
        lastLower = 1L;
    }

    // ---- 1 rows, texts, streets, years

    public int row(int r, int n) {
        return renewed(rows, r, n, 0);
    }

    public int lay(int r, int i, int v) {
        int refusal = refusalOfPlace(rows, r, i);
        if (refusal != 0) {
            return refusal;
        }
        int before = rows.get(r, i);
        rows.set(r, i, v);
        return tell(before);
    }

    public int at(int r, int i) {
        int refusal = refusalOfPlace(rows, r, i);
        return refusal != 0 ? refusal : tell(rows.get(r, i));
    }

    public int tear(int r) {
        int refusal = refusalOf(rows, r);
        if (refusal != 0) {
            return refusal;
        }
        rows.drop(r);
        return 1;
    }

    public int copy(int r, int i, int to, int j, int n) {
        if (!rows.knows(r) || !rows.knows(to)) {
            return BAD;
        }
        if (n < 0) {
            return found(SIZE);
        }
        if (!rows.isThere(r) || !rows.isThere(to)) {
            return found(NOTHING);
        }
        if (!rows.spans(r, i, n) || !rows.spans(to, j, n)) {
            return found(BEYOND);
        }
        rows.move(r, i, to, j, n);
        return 1;
    }

    public int mean(int r) {
        int refusal = refusalOf(rows, r);
        if (refusal != 0) {
            return refusal;
        }
        int size = rows.sizeOf(r);
        if (size <= 0) {
            return found(NOUGHT);
        }
        return tell((int) (rows.sumOf(r) / size));
    }

    public int text(int t, int n) {
        return renewed(texts, t, n, BLANK);
    }

    public int put(int t, int i, int v) {
        int refusal = refusalOfPlace(texts, t, i);
        if (refusal != 0) {
            return refusal;
        }
        int before = texts.get(t, i);
        texts.set(t, i, (byte) v);
        return before + 1000;
    }

    public int fault(int t, boolean year) {
        int refusal = refusalOf(texts, t);
        if (refusal != 0) {
            return refusal;
        }
        return year ? faultOfYear(t) : faultOfStreet(t);
    }

    public int street(int t) {
        int refusal = refusalOf(texts, t);
        if (refusal != 0) {
            return refusal;
        }
        if (faultOfStreet(t) != NONE) {
            return STATE;
        }
        Street before = street;
        street = draftStreet;
        draftStreet = before;
        log.cutTo(0);
        present.replay(log);
        return street.houses;
    }

    public int year(int t) {
        int refusal = refusalOf(texts, t);
        if (refusal != 0) {
            return refusal;
        }
        if (faultOfYear(t) != NONE) {
            return STATE;
        }
        log.addAll(draftLog);
        present.replay(log);
        return draftLog.size;
    }

    public int event(int kind, int a, int b, boolean more) {
        if (!isEvent(kind, a, b)) {
            return BAD;
        }
        if (log.size >= EVENTS || (Log.makesKey(kind) && present.keys >= KEYS)) {
            return FULL;
        }
        int change = kind != TRUST ? 0 : more ? 1 : -1;
        log.add(kind, a, kind == CHANGED ? 0 : b, change);
        present.replay(log);
        return log.size - 1;
    }

    public int back(int n) {
        if (n < 0 || n > log.size) {
            return BAD;
        }
        int gone = log.size - n;
        log.cutTo(n);
        present.replay(log);
        return gone;
    }

    public int told(int e, int what) {
        if (!log.knows(e) || what < 0 || what > 3) {
            return BAD;
        }
        return tell(log.detail(e, what));
    }

    public int mark(int e, int kind) {
        if (!log.knows(e) || kind < MADE || kind > TRUST) {
            return BAD;
        }
        if (!Log.isOfKind(log.kinds[e], kind)) {
            return found(UNLIKE);
        }
        switch (kind) {
            case MADE:
                return log.keysBefore(e);
            case GIVEN:
            case LAID:
                return log.seconds[e];
            default:
                return log.firsts[e];
        }
    }

    public int house(int h, int what) {
        if (!isHouse(h) || what < 0 || what > 3) {
            return BAD;
        }
        return tell(houseDetail(h, what));
    }

    public int person(int p, int what) {
        if (!isPerson(p) || what < 0 || what > 2) {
            return BAD;
        }
        return tell(personDetail(p, what));
    }

    public int key(int k, int what) {
        if (!present.isKey(k) || what < 0 || what > 4) {
            return BAD;
        }
        return tell(present.keyDetail(k, what));
    }

    public int trust(int a, int b) {
        if (!isPerson(a) || !isPerson(b) || a == b) {
            return BAD;
        }
        return tell(present.trustOf(a, b));
    }

    // ---- 2 who comes in

    public int alone(int p) {
        return isPerson(p) ? comesAlone(p) : BAD;
    }

    /**
     * No HOUSE ever needs two KEYS to be OPEN, so of several who bring him in together one does so
     * by himself: none or one is always the fewest.
     */
    public int wake(int p, int h, boolean own) {
        if (!isPerson(p) || !isHouse(h)) {
            return BAD;
        }
        if (has(comesUnaided(p, own), h)) {
            tell(0);
            return 0;
        }
        for (int q = 0; q < street.persons; q++) {
            if (canWake(p, q) && has(comesBy(q), h)) {
                tell(1 << q);
                return 1;
            }
        }
        return NONE;
    }

    /** He stays out just if each stays asleep who could bring him in by himself: see wake(). */
    public int odds(int p, int h, boolean own) {
        if (!isPerson(p) || !isHouse(h)) {
            return BAD;
        }
        int wakeable = 0;
        long all = 1L;
        long fails = has(comesUnaided(p, own), h) ? 0L : 1L;
        for (int q = 0; q < street.persons; q++) {
            if (canWake(p, q)) {
                wakeable++;
                if (has(comesBy(q), h)) {
                    all *= TWELFTHS;
                    fails *= TWELFTHS - street.answersOf(q);
                }
            }
        }
        tellFraction(all - fails, all);
        return wakeable;
    }

    public int soonest(int p, int h, boolean own) {
        if (!isPerson(p) || !isHouse(h)) {
            return BAD;
        }
        prepareWay(p);
        return way.quickest(own ? present.opens(HELD, p) : 0, 1 << h, false);
    }

    public int round(int p, int set, boolean own) {
        if (!isPerson(p) || set < 0 || set > street.allHouses()) {
            return BAD;
        }
        prepareWay(p);
        return way.quickest(own ? present.opens(HELD, p) : 0, set, true);
    }

    public int stuck() {
        int loose = present.opens(HELD, ANYWHERE) | present.opens(POTTED, ANYWHERE);
        int shut = street.allHouses() & ~present.comesFrom(loose);
        int keyless = 0;
        for (int h = 0; h < street.houses; h++) {
            if (has(shut, h) && present.liveKeysOf(h) == 0) {
                keyless |= 1 << h;
            }
        }
        tell(keyless);
        return shut;
    }

    // ---- 3 plans, suspects, rings

    public int safe(int n, int m, int r) {
        if (n < 1 || n > 2 || m < 0 || m > MINE_MOST || !rows.knows(r)) {
            return BAD;
        }
        plan.prepare(street, present, n + 1, m);
        if (!plan.isFound()) {
            return NONE;
        }
        int keys = plan.size();
        rows.renew(r, 2 * keys, 0);
        int place = 0;
        for (int h = 0; h < HOUSES; h++) {
            for (int x = 0; x < HOUSES; x++) {
                if (has(plan.given[h], x)) {
                    rows.set(r, place, h);
                    rows.set(r, place + 1, x);
                    place += 2;
                }
            }
        }
        return keys;
    }

    public int suspects(int h) {
        if (!isHouse(h)) {
            return BAD;
        }
        int byHimself = 0;
        int byCopies = 0;
        for (int p = 0; p < street.persons; p++) {
            if (street.homeOf(p) != h) {
                int comes = comesAlone(p);
                byHimself |= has(comes, h) ? 1 << p : 0;
                comes |= present.comesFrom(present.passedOpens(p));
                byCopies |= has(comes, h) ? 1 << p : 0;
            }
        }
        tell(byCopies);
        return byHimself;
    }

    /** As with wake(), one COPY is always enough where any are. */
    public int copies(int p, int h) {
        if (!isPerson(p) || !isHouse(h) || street.homeOf(p) == h) {
            return BAD;
        }
        if (has(comesAlone(p), h)) {
            tell(0);
            return 0;
        }
        int passed = present.passedOpens(p);
        for (int g = 0; g < street.houses; g++) {
            if (has(passed, g) && has(present.comesFrom(1 << g), h)) {
                tell(1 << g);
                return 1;
            }
        }
        return NONE;
    }

    public int dead(int h) {
        if (!isHouse(h)) {
            return BAD;
        }
        int keys = 0;
        int holders = 0;
        for (int k = 0; k < present.keys; k++) {
            if (present.keyHouses[k] == h && !present.isLive(k)) {
                keys++;
                holders |= present.places[k] == HELD ? 1 << present.holders[k] : 0;
            }
        }
        tell(holders);
        return keys;
    }

    public int lost(int p, int r) {
        if (!isPerson(p) || !rows.knows(r)) {
            return BAD;
        }
        int opened = present.opens(HELD, p);
        int doors = Integer.bitCount(opened);
        int cost = 0;
        rows.renew(r, doors, 0);
        for (int i = 0; i < doors; i++) {
            int h = riskiest(opened);
            rows.set(r, i, h);
            cost += street.costOf(h);
            opened &= ~(1 << h);
        }
        tell(cost);
        return doors;
    }

    // ---- 4 what is told

    public int asked() {
        return lastAsked;
    }

    public long upper() {
        return lastUpper;
    }

    public long lower() {
        return lastLower;
    }

    public int count(int what) {
        switch (what) {
            case 0:
                return street.houses;
            case 1:
                return street.persons;
            case 2:
                return present.keys;
            case 3:
                return present.liveKeys();
            case 4:
                return log.size;
            case 5:
                return log.keysBefore(log.size);
            case 6:
                return rows.present();
            case 7:
                return texts.present();
            default:
                return BAD;
        }
    }

    public int finding() {
        return lastFinding;
    }

    public int findings(int f) {
        return f >= NOTHING && f <= SIZE ? findingCounts[f] : BAD;
    }

    public long digest() {
        long sum = 17L;
        for (int what = 0; what < 8; what++) {
            sum = 31L * sum + count(what);
        }
        for (int h = 0; h < street.houses; h++) {
            for (int what = 0; what < 4; what++) {
                sum = 31L * sum + houseDetail(h, what);
            }
        }
        for (int p = 0; p < street.persons; p++) {
            sum = digestPerson(sum, p);
        }
        for (int k = 0; k < present.keys; k++) {
            for (int what = 0; what < 5; what++) {
                sum = 31L * sum + present.keyDetail(k, what);
            }
        }
        for (int e = 0; e < log.size; e++) {
            for (int what = 0; what < 4; what++) {
                sum = 31L * sum + log.detail(e, what);
            }
        }
        return texts.digestOn(rows.digestOn(sum));
    }

    // ---- answers and refusals

    private int tell(int value) {
        lastAsked = value;
        return 1;
    }

    private void tellFraction(long top, long bottom) {
        long common = commonDivisor(top, bottom);
        if (common > 0L) {
            lastUpper = top / common;
            lastLower = bottom / common;
        }
    }

    private static long commonDivisor(long a, long b) {
        long x = a;
        long y = b;
        // Euclid's way takes fewer than 100 steps for any two longs.
        for (int i = 0; i < 100 && y != 0L; i++) {
            long rest = x % y;
            x = y;
            y = rest;
        }
        return x;
    }

    private int found(int finding) {
        lastFinding = finding;
        if (finding >= 0 && finding < findingCounts.length) {
            findingCounts[finding]++;
        }
        return FINDING;
    }

    /** 0, if a ROW or TEXT is there. */
    private int refusalOf(Shelf shelf, int r) {
        if (!shelf.knows(r)) {
            return BAD;
        }
        return shelf.isThere(r) ? 0 : found(NOTHING);
    }

    /** 0, if a place of a ROW or TEXT is there. */
    private int refusalOfPlace(Shelf shelf, int r, int i) {
        int refusal = refusalOf(shelf, r);
        if (refusal != 0) {
            return refusal;
        }
        return shelf.spans(r, i, 1) ? 0 : found(BEYOND);
    }

    private int renewed(Shelf shelf, int r, int n, int fill) {
        if (!shelf.knows(r) || n > shelf.most) {
            return BAD;
        }
        if (n < 0) {
            return found(SIZE);
        }
        shelf.renew(r, n, fill);
        return n;
    }

    // ---- texts and events

    private int faultOfStreet(int t) {
        scan.begin(texts, t);
        scan.readStreet(draftStreet);
        return scan.wrong;
    }

    private int faultOfYear(int t) {
        scan.begin(texts, t);
        scan.readYear(draftLog, street, present.keys, log.size);
        return scan.wrong;
    }

    private boolean isEvent(int kind, int a, int b) {
        switch (kind) {
            case MADE:
                return isHouse(a) && isPerson(b);
            case COPY:
            case GIVEN:
                return present.isKey(a) && isPerson(b);
            case LAID:
            case INSIDE:
                return present.isKey(a) && isHouse(b);
            case CHANGED:
                return isHouse(a);
            case TRUST:
                return isPerson(a) && isPerson(b) && a != b;
            default:
                return false;
        }
    }

    // ---- houses and persons

    private static boolean has(int set, int i) {
        return (set >> i & 1) != 0;
    }

    private boolean isHouse(int h) {
        return h >= 0 && h < street.houses;
    }

    private boolean isPerson(int p) {
        return p >= 0 && p < street.persons;
    }

    private int houseDetail(int h, int what) {
        switch (what) {
            case 0:
                return street.costOf(h);
            case 1:
                return present.changesOf(h);
            case 2:
                return present.liveKeysOf(h);
            default:
                return street.peopleOf(h);
        }
    }

    private int personDetail(int p, int what) {
        switch (what) {
            case 0:
                return street.homeOf(p);
            case 1:
                return street.answersOf(p);
            default:
                return present.keysHeldBy(p);
        }
    }

    private long digestPerson(long before, int p) {
        long sum = before;
        for (int what = 0; what < 3; what++) {
            sum = 31L * sum + personDetail(p, what);
        }
        for (int b = 0; b < street.persons; b++) {
            if (b != p) {
                sum = 31L * sum + present.trustOf(p, b);
            }
        }
        return sum;
    }

    // ---- coming in

    private int comesAlone(int p) {
        return comesUnaided(p, true);
    }

    private int comesUnaided(int p, boolean own) {
        int opened = present.opens(POTTED, ANYWHERE);
        return present.comesFrom(own ? opened | present.opens(HELD, p) : opened);
    }

    private boolean canWake(int p, int q) {
        return q != p && street.homeOf(q) >= 0 && present.trustOf(q, p) >= 0;
    }

    /** HOUSES that are OPEN, once q is WOKEN. */
    private int comesBy(int q) {
        return present.comesFrom(handedBy(q));
    }

    /** HOUSES that q's KEYS open, and his own. */
    private int handedBy(int q) {
        int home = street.homeOf(q);
        return present.opens(HELD, q) | (home >= 0 ? 1 << home : 0);
    }

    private void prepareWay(int p) {
        int home = street.homeOf(p);
        way.begin(street.houses, home >= 0 ? home : 0);
        for (int h = 0; h < street.houses; h++) {
            way.seenAt(h, present.opens(POTTED, h));
            way.goneInto(h, present.opens(SHUT, h));
        }
        for (int q = 0; q < street.persons; q++) {
            if (canWake(p, q)) {
                way.seenAt(street.homeOf(q), handedBy(q));
            }
        }
    }

    /** Of a set the HOUSE of most RISK, then least cost, then the first. */
    private int riskiest(int set) {
        int best = NONE;
        int bestRisk = 0;
        for (int h = 0; h < street.houses; h++) {
            if (has(set, h)) {
                int risk = Integer.bitCount(present.comesFrom(1 << h));
                boolean cheaper = best == NONE || street.costOf(h) < street.costOf(best);
                if (risk > bestRisk || (risk == bestRisk && cheaper)) {
                    best = h;
                    bestRisk = risk;
                }
            }
        }
        return best == NONE ? 0 : best;
    }

    /** Rows of one greatest size, each of which may be missing. */
    private static final class Shelf {
        final int most;
        final int[] sizes;
        final int[] cells;

        Shelf(int rows, int most) {
            this.most = most;
            sizes = new int[rows];
            cells = new int[rows * most];
            for (int r = 0; r < rows; r++) {
                sizes[r] = -1;
            }
        }

        boolean knows(int r) {
            return r >= 0 && r < sizes.length;
        }

        boolean isThere(int r) {
            return sizeOf(r) >= 0;
        }

        int sizeOf(int r) {
            return knows(r) ? sizes[r] : -1;
        }

        boolean spans(int r, int i, int n) {
            return i >= 0 && n >= 0 && i <= sizeOf(r) - n;
        }

        int get(int r, int i) {
            return spans(r, i, 1) ? cells[r * most + i] : OUTSIDE;
        }

        void set(int r, int i, int v) {
            if (spans(r, i, 1)) {
                cells[r * most + i] = v;
            }
        }

        void renew(int r, int n, int fill) {
            if (knows(r) && n >= 0 && n <= most) {
                sizes[r] = n;
                for (int i = 0; i < n; i++) {
                    cells[r * most + i] = fill;
                }
            }
        }

        void drop(int r) {
            if (knows(r)) {
                sizes[r] = -1;
            }
        }

        void move(int r, int i, int to, int j, int n) {
            if (spans(r, i, n) && spans(to, j, n)) {
                System.arraycopy(cells, r * most + i, cells, to * most + j, n);
            }
        }

        long sumOf(int r) {
            long sum = 0L;
            int size = sizeOf(r);
            for (int i = 0; i < size; i++) {
                sum += get(r, i);
            }
            return sum;
        }

        int present() {
            int there = 0;
            for (int r = 0; r < sizes.length; r++) {
                there += isThere(r) ? 1 : 0;
            }
            return there;
        }

        long digestOn(long before) {
            long sum = before;
            for (int r = 0; r < sizes.length; r++) {
                sum = 31L * sum + sizes[r];
                for (int i = 0; i < sizes[r]; i++) {
                    sum = 31L * sum + get(r, i);
                }
            }
            return sum;
        }
    }

    /** HOUSES and PERSONS, as a STREET tells them. */
    private static final class Street {
        int houses;
        int persons;
        final int[] costs = new int[HOUSES];
        final int[] homes = new int[PERSONS];
        final int[] answers = new int[PERSONS];

        void clear() {
            houses = 0;
            persons = 0;
        }

        void addHouse(int cost) {
            if (houses < HOUSES) {
                costs[houses] = cost;
                houses++;
            }
        }

        void addPerson(int home, int answer) {
            if (persons < PERSONS) {
                homes[persons] = home;
                answers[persons] = answer;
                persons++;
            }
        }

        int allHouses() {
            return (1 << houses) - 1;
        }

        int costOf(int h) {
            return h >= 0 && h < houses ? costs[h] : 0;
        }

        int homeOf(int p) {
            return p >= 0 && p < persons ? homes[p] : NONE;
        }

        int answersOf(int p) {
            return p >= 0 && p < persons ? answers[p] : 0;
        }

        int peopleOf(int h) {
            int people = 0;
            for (int p = 0; p < persons; p++) {
                people |= homes[p] == h ? 1 << p : 0;
            }
            return people;
        }
    }

    /** EVENTS, one behind the other. */
    private static final class Log {
        int size;
        final int[] kinds = new int[EVENTS];
        final int[] firsts = new int[EVENTS];
        final int[] seconds = new int[EVENTS];
        final int[] changes = new int[EVENTS];

        static boolean makesKey(int kind) {
            return kind == MADE || kind == COPY;
        }

        /** A COPY is a MADE one, too; one that is INSIDE a LAID one. */
        static boolean isOfKind(int kind, int wanted) {
            return kind == wanted || (kind == COPY && wanted == MADE) || (kind == INSIDE && wanted == LAID);
        }

        boolean knows(int e) {
            return e >= 0 && e < size;
        }

        void cutTo(int n) {
            if (n >= 0 && n < size) {
                size = n;
            }
        }

        void add(int kind, int a, int b, int change) {
            if (size < EVENTS) {
                kinds[size] = kind;
                firsts[size] = a;
                seconds[size] = b;
                changes[size] = change;
                size++;
            }
        }

        void addAll(Log more) {
            for (int e = 0; e < more.size; e++) {
                add(more.kinds[e], more.firsts[e], more.seconds[e], more.changes[e]);
            }
        }

        int detail(int e, int what) {
            if (!knows(e)) {
                return 0;
            }
            switch (what) {
                case 0:
                    return kinds[e];
                case 1:
                    return firsts[e];
                case 2:
                    return seconds[e];
                default:
                    return changes[e];
            }
        }

        /** How many KEYS there were ahead of an EVENT: the number of the next one. */
        int keysBefore(int e) {
            int keys = 0;
            for (int i = 0; i < e && i < size; i++) {
                keys += makesKey(kinds[i]) ? 1 : 0;
            }
            return keys;
        }
    }

    /** What all EVENTS have come to. */
    private static final class Present {
        int keys;
        final int[] keyHouses = new int[KEYS];
        /** How often its HOUSE's lock had been CHANGED when a KEY's lock was new. */
        final int[] keyLocks = new int[KEYS];
        final int[] places = new int[KEYS];
        final int[] holders = new int[KEYS];
        final int[] passed = new int[KEYS];
        final int[] changes = new int[HOUSES];
        final int[] trusts = new int[PERSONS * PERSONS];
        /** HOUSES to which one COMES from a HOUSE that is OPEN. */
        final int[] reach = new int[HOUSES];

        void replay(Log log) {
            keys = 0;
            for (int h = 0; h < HOUSES; h++) {
                changes[h] = 0;
            }
            for (int i = 0; i < trusts.length; i++) {
                trusts[i] = 0;
            }
            for (int e = 0; e < log.size; e++) {
                apply(log.kinds[e], log.firsts[e], log.seconds[e], log.changes[e]);
            }
            settleReach();
        }

        private void apply(int kind, int a, int b, int change) {
            switch (kind) {
                case MADE:
                    addKey(a, changesOf(a), b);
                    break;
                case COPY:
                    if (isKey(a)) {
                        addKey(keyHouses[a], keyLocks[a], b);
                    }
                    break;
                case GIVEN:
                    bring(a, HELD, b);
                    break;
                case LAID:
                    bring(a, POTTED, b);
                    break;
                case INSIDE:
                    bring(a, SHUT, b);
                    break;
                case CHANGED:
                    if (a >= 0 && a < HOUSES) {
                        changes[a]++;
                    }
                    break;
                default:
                    changeTrust(a, b, change);
                    break;
            }
        }

        private void addKey(int house, int lock, int holder) {
            if (keys < KEYS) {
                keyHouses[keys] = house;
                keyLocks[keys] = lock;
                passed[keys] = 0;
                keys++;
                bring(keys - 1, HELD, holder);
            }
        }

        private void bring(int k, int place, int holder) {
            if (isKey(k)) {
                places[k] = place;
                holders[k] = holder;
                if (place == HELD) {
                    passed[k] |= 1 << holder;
                }
            }
        }

        private void changeTrust(int a, int b, int change) {
            if (arePersons(a, b)) {
                int changed = trustOf(a, b) + change;
                trusts[a * PERSONS + b] = Math.max(-TRUST_MOST, Math.min(TRUST_MOST, changed));
            }
        }

        private void settleReach() {
            for (int h = 0; h < HOUSES; h++) {
                reach[h] = 1 << h | opens(SHUT, h);
            }
            for (int mid = 0; mid < HOUSES; mid++) {
                for (int h = 0; h < HOUSES; h++) {
                    if (has(reach[h], mid)) {
                        reach[h] |= reach[mid];
                    }
                }
            }
        }

        boolean isKey(int k) {
            return k >= 0 && k < keys;
        }

        private static boolean arePersons(int a, int b) {
            return a >= 0 && a < PERSONS && b >= 0 && b < PERSONS;
        }

        int trustOf(int a, int b) {
            return arePersons(a, b) ? trusts[a * PERSONS + b] : 0;
        }

        int changesOf(int h) {
            return h >= 0 && h < HOUSES ? changes[h] : 0;
        }

        boolean isLive(int k) {
            return isKey(k) && keyLocks[k] == changesOf(keyHouses[k]);
        }

        int liveKeys() {
            int live = 0;
            for (int k = 0; k < keys; k++) {
                live += isLive(k) ? 1 : 0;
            }
            return live;
        }

        int liveKeysOf(int h) {
            int live = 0;
            for (int k = 0; k < keys; k++) {
                live |= keyHouses[k] == h && isLive(k) ? 1 << k : 0;
            }
            return live;
        }

        int keysHeldBy(int p) {
            int held = 0;
            for (int k = 0; k < keys; k++) {
                held |= places[k] == HELD && holders[k] == p ? 1 << k : 0;
            }
            return held;
        }

        int keyDetail(int k, int what) {
            if (!isKey(k)) {
                return 0;
            }
            switch (what) {
                case 0:
                    return keyHouses[k];
                case 1:
                    return isLive(k) ? 1 : 0;
                case 2:
                    return places[k];
                case 3:
                    return holders[k];
                default:
                    return passed[k];
            }
        }

        /** HOUSES of LIVE KEYS that are HELD, under a pot or shut in by one, or ANYWHERE so. */
        int opens(int place, int holder) {
            int houses = 0;
            for (int k = 0; k < keys; k++) {
                boolean here = places[k] == place && (holder == ANYWHERE || holders[k] == holder);
                houses |= here && isLive(k) ? 1 << keyHouses[k] : 0;
            }
            return houses;
        }

        /** HOUSES of LIVE KEYS that PASSED a PERSON. */
        int passedOpens(int p) {
            int houses = 0;
            for (int k = 0; k < keys; k++) {
                houses |= has(passed[k], p) && isLive(k) ? 1 << keyHouses[k] : 0;
            }
            return houses;
        }

        int comesFrom(int open) {
            int all = open;
            for (int h = 0; h < HOUSES; h++) {
                all |= has(open, h) ? reach[h] : 0;
            }
            return all;
        }
    }

    /** Reads a TEXT sign by sign; the first place at which it can't go on is kept. */
    private static final class Scan {
        private final int[] signs = new int[TEXT_MOST];
        private int size;
        private int place;
        int wrong = NONE;

        void begin(Shelf texts, int t) {
            size = Math.min(TEXT_MOST, Math.max(0, texts.sizeOf(t)));
            for (int i = 0; i < size; i++) {
                signs[i] = texts.get(t, i);
            }
            place = 0;
            wrong = NONE;
        }

        void readStreet(Street to) {
            to.clear();
            for (int i = 0; i <= size && skipToItem(); i++) {
                int letter = sign();
                if (letter == 'h' && to.houses < HOUSES) {
                    readHouse(to);
                } else if (letter == 'p' && to.persons < PERSONS) {
                    readPerson(to);
                } else {
                    stop();
                }
            }
        }

        private void readHouse(Street to) {
            place++;
            int cost = number(COSTS);
            if (wrong == NONE) {
                to.addHouse(cost);
            }
        }

        private void readPerson(Street to) {
            place++;
            int home = NONE;
            if (sign() == '-') {
                place++;
            } else {
                home = figure(to.houses);
            }
            expect(':');
            int answer = number(TWELFTHS + 1);
            if (wrong == NONE) {
                to.addPerson(home, answer);
            }
        }

        /** EVENTS that come to as many KEYS and EVENTS as are told. */
        void readYear(Log to, Street street, int keys, int events) {
            to.cutTo(0);
            int made = keys;
            for (int i = 0; i <= size && skipToItem(); i++) {
                int kind = kindOf(sign());
                boolean makes = Log.makesKey(kind);
                if (kind == 0 || events + to.size >= EVENTS || (makes && made >= KEYS)) {
                    stop();
                } else {
                    readEvent(to, kind, street, made);
                    made += makes ? 1 : 0;
                }
            }
        }

        private void readEvent(Log to, int kind, Street street, int keys) {
            int change = kind != TRUST ? 0 : sign() == 'f' ? 1 : -1;
            int a = 0;
            int b = 0;
            place++;
            if (kind == MADE || kind == CHANGED) {
                a = figure(street.houses);
            } else {
                a = number(kind == TRUST ? street.persons : keys);
            }
            if (kind != CHANGED) {
                expect(joint(kind));
                b = kind == LAID || kind == INSIDE ? figure(street.houses) : number(street.persons);
            }
            if (kind == TRUST && a == b) {
                stop();
            }
            if (wrong == NONE) {
                to.add(kind, a, b, change);
            }
        }

        private static int kindOf(int letter) {
            switch (letter) {
                case 'm':
                    return MADE;
                case 'c':
                    return COPY;
                case 'g':
                    return GIVEN;
                case 'l':
                    return LAID;
                case 'i':
                    return INSIDE;
                case 'x':
                    return CHANGED;
                case 'q':
                case 'f':
                    return TRUST;
                default:
                    return 0;
            }
        }

        private static int joint(int kind) {
            if (kind == LAID || kind == INSIDE) {
                return '@';
            }
            return kind == TRUST ? '/' : '>';
        }

        /** Whether an item is still to be read. */
        private boolean skipToItem() {
            for (int i = 0; i < size && sign() == BLANK; i++) {
                place++;
            }
            return wrong == NONE && place < size;
        }

        private int sign() {
            return place >= 0 && place < size ? signs[place] : OUTSIDE;
        }

        private void stop() {
            if (wrong == NONE) {
                wrong = place;
            }
        }

        private void expect(int wanted) {
            if (wrong == NONE && sign() == wanted) {
                place++;
            } else {
                stop();
            }
        }

        /** One figure below a bound. */
        private int figure(int bound) {
            int value = sign() - '0';
            if (wrong != NONE || value < 0 || value > 9 || value >= bound) {
                stop();
                return 0;
            }
            place++;
            return value;
        }

        /** One or two figures, together below a bound. */
        private int number(int bound) {
            int value = figure(10);
            if (sign() >= '0' && sign() <= '9') {
                value = 10 * value + figure(10);
            }
            if (value >= bound) {
                stop();
            }
            return value;
        }
    }

    /**
     * The quickest WAY, minute by minute. Of what he has only the HOUSES count that it opens to
     * him; so he is told by where he stands, these HOUSES, and those of the goal in which he has
     * been (which are always among the opened: 3 ways for each HOUSE).
     */
    private static final class Way {
        private static final int SETS = 64, STATES = 6 * 729, STAMPS = 1 << 24;

        private int houses;
        private int start;
        private int goal;
        private int stamp;
        private int last;
        /** HOUSES that he can open, once he has looked ahead of one. */
        private final int[] byLooking = new int[HOUSES];
        /** HOUSES that he can open, once he has been in one. */
        private final int[] byEntering = new int[HOUSES];
        /** By opened HOUSES and those gone into: where he has stood so, below the stamp of the call. */
        private final int[] stood = new int[SETS * SETS];
        private final int[] queue = new int[STATES];

        void begin(int houses, int start) {
            this.houses = houses;
            this.start = start;
            for (int h = 0; h < HOUSES; h++) {
                byLooking[h] = 0;
                byEntering[h] = 0;
            }
        }

        void seenAt(int h, int opened) {
            if (h >= 0 && h < HOUSES) {
                byLooking[h] |= opened;
            }
        }

        void goneInto(int h, int opened) {
            if (h >= 0 && h < HOUSES) {
                byEntering[h] |= opened;
            }
        }

        /** The first minute in which he has been in all of a set (and is home again), or NONE. */
        int quickest(int opened, int set, boolean home) {
            goal = set;
            last = 0;
            // A stamp of its own spares each call the clearing of all that was stood.
            stamp = stamp >= STAMPS ? 1 : stamp + 1;
            reached(start, opened, 0);
            int minute = 0;
            int minuteEnd = last;
            for (int i = 0; i < last && i < STATES; i++) {
                if (i == minuteEnd) {
                    minute++;
                    minuteEnd = last;
                }
                int at = queue[i] / (SETS * SETS);
                int been = queue[i] % SETS;
                if (been == goal && (!home || at == start)) {
                    return minute;
                }
                goOn(at, queue[i] / SETS % SETS, been);
            }
            return NONE;
        }

        private void goOn(int at, int opened, int been) {
            if (at < 0 || at >= HOUSES) {
                return;
            }
            if (at > 0) {
                reached(at - 1, opened, been);
            }
            if (at < houses - 1) {
                reached(at + 1, opened, been);
            }
            reached(at, opened | byLooking[at], been);
            if (has(opened, at)) {
                reached(at, opened | byEntering[at], been | (1 << at & goal));
            }
        }

        private void reached(int at, int opened, int been) {
            int place = opened * SETS + been;
            if (place < 0 || place >= stood.length || last >= STATES) {
                return;
            }
            int before = stood[place] / SETS == stamp ? stood[place] : stamp * SETS;
            if (!has(before, at)) {
                stood[place] = before | 1 << at;
                queue[last] = at * SETS * SETS + place;
                last++;
            }
        }
    }

    /** The first PLAN to be SAFE. */
    private static final class Plan {
        private final int[] hostile = new int[HOUSES];
        private final int[] holds = new int[HOUSES];
        private final int[] needs = new int[HOUSES];
        /** HOUSES that may be given a KEY of a HOUSE. */
        private final int[] takers = new int[HOUSES];
        /** HOUSES of which a HOUSE may be given a KEY, and how many it may still be given. */
        private final int[] offers = new int[HOUSES];
        private final int[] room = new int[HOUSES];
        final int[] given = new int[HOUSES];

        void prepare(Street street, Present present, int due, int most) {
            int lived = 0;
            for (int h = 0; h < HOUSES; h++) {
                hostile[h] = 0;
                holds[h] = 0;
                offers[h] = 0;
                given[h] = 0;
                room[h] = most;
            }
            for (int p = 0; p < street.persons; p++) {
                int home = street.homeOf(p);
                if (isPlace(home)) {
                    lived |= 1 << home;
                    holds[home] |= present.opens(HELD, p);
                    findHostile(street, present, p, home);
                }
            }
            for (int h = 0; h < HOUSES; h++) {
                findNeed(h, lived, due);
            }
        }

        private static boolean isPlace(int h) {
            return h >= 0 && h < HOUSES;
        }

        private void findHostile(Street street, Present present, int p, int home) {
            for (int q = 0; q < street.persons; q++) {
                int other = street.homeOf(q);
                if (isPlace(home) && isPlace(other) && present.trustOf(p, q) < 0) {
                    hostile[home] |= 1 << other;
                    hostile[other] |= 1 << home;
                }
            }
        }

        private void findNeed(int h, int lived, int due) {
            if (!isPlace(h)) {
                return;
            }
            needs[h] = 0;
            takers[h] = 0;
            if (!has(lived, h)) {
                return;
            }
            int helpers = lived & ~hostile[h] & ~(1 << h);
            int have = 0;
            for (int x = 0; x < HOUSES; x++) {
                have |= has(helpers, x) && has(holds[x], h) ? 1 << x : 0;
            }
            needs[h] = Math.max(0, due - Integer.bitCount(have));
            takers[h] = helpers & ~have;
            for (int x = 0; x < HOUSES; x++) {
                offers[x] |= has(takers[h], x) ? 1 << h : 0;
            }
        }

        boolean isFound() {
            if (!canGoOn(0)) {
                return false;
            }
            for (int h = 0; h < HOUSES; h++) {
                if (!giveFirst(h)) {
                    return false;
                }
            }
            return true;
        }

        int size() {
            int keys = 0;
            for (int h = 0; h < HOUSES; h++) {
                keys += Integer.bitCount(given[h]);
            }
            return keys;
        }

        /** Gives KEYS of a HOUSE to the first set that leaves enough for all HOUSES behind it. */
        private boolean giveFirst(int h) {
            if (!isPlace(h)) {
                return false;
            }
            for (int set = 0; set <= takers[h]; set++) {
                boolean fits = (set & ~takers[h]) == 0 && Integer.bitCount(set) == needs[h];
                if (fits && haveRoom(set)) {
                    changeRoom(set, -1);
                    if (canGoOn(h + 1)) {
                        given[h] = set;
                        return true;
                    }
                    changeRoom(set, 1);
                }
            }
            return false;
        }

        private boolean haveRoom(int set) {
            for (int x = 0; x < HOUSES; x++) {
                if (has(set, x) && room[x] <= 0) {
                    return false;
                }
            }
            return true;
        }

        private void changeRoom(int set, int by) {
            for (int x = 0; x < HOUSES; x++) {
                room[x] += has(set, x) ? by : 0;
            }
        }

        /**
         * Whether HOUSES from one on can be given what they need: as with Hall's marriages, just if
         * no set of them needs more than all takers together can take of it.
         */
        private boolean canGoOn(int from) {
            for (int part = 1; part < 1 << (HOUSES - from); part++) {
                int set = part << from;
                int spare = 0;
                for (int x = 0; x < HOUSES; x++) {
                    spare += Math.min(room[x], Integer.bitCount(offers[x] & set));
                    spare -= has(set, x) ? needs[x] : 0;
                }
                if (spare < 0) {
                    return false;
                }
            }
            return true;
        }
    }
}
