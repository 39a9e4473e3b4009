import java.math.BigInteger;
import java.util.ArrayDeque;
import java.util.ArrayList;
import java.util.HashMap;
import java.util.List;
import java.util.Map;
import java.util.regex.Matcher;
import java.util.regex.Pattern;

/**
 * The document's words taken as they stand, without a thought of speed: sets of KEYS instead of
 * sets of HOUSES, all subsets tried, all WAYS and PLANS gone through.
 */
final class Model {
    record Event(int kind, int a, int b, int change) {
    }

    static final class Key {
        int house;
        int lock;
        int where;
        int who;
        int passed;
    }

    static final int NONE = -9;

    final List<Integer> costs = new ArrayList<>();
    final List<Integer> homes = new ArrayList<>();
    final List<Integer> answers = new ArrayList<>();
    final List<Event> events = new ArrayList<>();
    final List<Key> keys = new ArrayList<>();
    int[] changes = new int[6];
    int[][] trust = new int[12][12];
    int asked;

    // ---- texts

    /** The longest beginning that can go on, by the patterns of whole items and of begun ones. */
    static int streetFault(String text) {
        int houses = 0;
        int persons = 0;
        int i = 0;
        Pattern item = Pattern.compile("h(\\d\\d?)|p([-\\d]):(\\d\\d?)");
        while (i < text.length()) {
            if (text.charAt(i) == ' ') {
                i++;
                continue;
            }
            if (text.charAt(i) == 'h' && houses == 6 || text.charAt(i) == 'p' && persons == 12) {
                return i;
            }
            Matcher m = item.matcher(text).region(i, text.length());
            boolean whole = m.lookingAt();
            if (text.charAt(i) == 'p' && i + 1 < text.length() && Character.isDigit(text.charAt(i + 1))
                    && text.charAt(i + 1) - '0' >= houses) {
                return i + 1;
            }
            if (!whole) {
                return begun(text, i, text.charAt(i) == 'h' ? "h9" : text.charAt(i) == 'p' ? "p9:9" : "");
            }
            if (m.group(3) != null && Integer.parseInt(m.group(3)) > 12) {
                return m.end();
            }
            houses += m.group(1) != null ? 1 : 0;
            persons += m.group(3) != null ? 1 : 0;
            i = m.end();
        }
        return NONE;
    }

    /** Where an item of single signs (9 for a figure or, behind p, a dash) breaks off. */
    private static int begun(String text, int from, String shape) {
        int i = from;
        for (char s : shape.toCharArray()) {
            if (i >= text.length()) {
                return text.length();
            }
            char c = text.charAt(i);
            boolean fits = s == '9' ? Character.isDigit(c) || c == '-' && text.charAt(i - 1) == 'p' : c == s;
            if (!fits) {
                return i;
            }
            i++;
        }
        return i;
    }

    void readStreet(String text) {
        costs.clear();
        homes.clear();
        answers.clear();
        Matcher m = Pattern.compile("h(\\d+)|p(.):(\\d+)").matcher(text);
        while (m.find()) {
            if (m.group(1) != null) {
                costs.add(Integer.parseInt(m.group(1)));
            } else {
                homes.add(m.group(2).equals("-") ? NONE : Integer.parseInt(m.group(2)));
                answers.add(Integer.parseInt(m.group(3)));
            }
        }
        events.clear();
        settle();
    }

    /** The FAULT of a YEAR, or NONE: then its EVENTS come to a list. */
    int yearFault(String text, List<Event> to) {
        int made = keys.size();
        int i = 0;
        while (i < text.length()) {
            char letter = text.charAt(i);
            if (letter == ' ') {
                i++;
                continue;
            }
            int kind = " mcglixqf".indexOf(letter);
            kind = kind == 8 ? 7 : kind;
            if (kind <= 0 || events.size() + to.size() == 40 || kind <= 2 && made == 24) {
                return i;
            }
            String shape = new String[] {"", "H>P", "K>P", "K>P", "K@H", "K@H", "H", "P/P"}[kind];
            int[] read = {0, 0};
            int count = 0;
            i++;
            for (char s : shape.toCharArray()) {
                if (i >= text.length()) {
                    return text.length();
                }
                if (s != 'H' && s != 'K' && s != 'P') {
                    if (text.charAt(i) != s) {
                        return i;
                    }
                    i++;
                    continue;
                }
                Matcher m = Pattern.compile(s == 'H' ? "\\d" : "\\d\\d?").matcher(text).region(i, text.length());
                if (!m.lookingAt()) {
                    return i;
                }
                int v = Integer.parseInt(m.group());
                if (s == 'H' && v >= costs.size()) {
                    return i;
                }
                if (s == 'K' && v >= made || s == 'P' && v >= homes.size()) {
                    return m.end();
                }
                read[count++] = v;
                i = m.end();
            }
            if (kind == 7 && read[0] == read[1]) {
                return i;
            }
            made += kind <= 2 ? 1 : 0;
            to.add(new Event(kind, read[0], read[1], kind != 7 ? 0 : letter == 'f' ? 1 : -1));
        }
        return NONE;
    }

    void settle() {
        keys.clear();
        changes = new int[6];
        trust = new int[12][12];
        for (Event e : events) {
            Key key = new Key();
            switch (e.kind()) {
                case 1 -> {
                    key.house = e.a();
                    key.lock = changes[e.a()];
                    keys.add(key);
                    give(key, e.b());
                }
                case 2 -> {
                    key.house = keys.get(e.a()).house;
                    key.lock = keys.get(e.a()).lock;
                    keys.add(key);
                    give(key, e.b());
                }
                case 3 -> give(keys.get(e.a()), e.b());
                case 4, 5 -> {
                    keys.get(e.a()).where = e.kind() - 3;
                    keys.get(e.a()).who = e.b();
                }
                case 6 -> changes[e.a()]++;
                default -> {
                    int t = trust[e.a()][e.b()] + e.change();
                    trust[e.a()][e.b()] = t > 3 ? 3 : t < -3 ? -3 : t;
                }
            }
        }
    }

    private static void give(Key key, int p) {
        key.where = 0;
        key.who = p;
        key.passed |= 1 << p;
    }

    // ---- who comes in

    boolean live(int k) {
        return keys.get(k).lock == changes[keys.get(k).house];
    }

    int keysAt(int where, int who) {
        int set = 0;
        for (int k = 0; k < keys.size(); k++) {
            set |= keys.get(k).where == where && (who < 0 || keys.get(k).who == who) ? 1 << k : 0;
        }
        return set;
    }

    boolean hasKey(int have, int h) {
        for (int k = 0; k < keys.size(); k++) {
            if ((have >> k & 1) == 1 && keys.get(k).house == h && live(k)) {
                return true;
            }
        }
        return false;
    }

    int comes(int have, int open) {
        for (int again = 0; again < 7; again++) {
            for (int h = 0; h < costs.size(); h++) {
                open |= hasKey(have, h) ? 1 << h : 0;
                have |= (open >> h & 1) == 1 ? keysAt(2, h) : 0;
            }
        }
        return open;
    }

    int alone(int p) {
        return comes(keysAt(0, p) | keysAt(1, -1), 0);
    }

    int wakeable(int p) {
        int set = 0;
        for (int q = 0; q < homes.size(); q++) {
            set |= q != p && homes.get(q) >= 0 && trust[q][p] >= 0 ? 1 << q : 0;
        }
        return set;
    }

    int comesWoken(int p, int woken, boolean own) {
        int have = keysAt(1, -1) | (own ? keysAt(0, p) : 0);
        int open = 0;
        for (int q = 0; q < homes.size(); q++) {
            if ((woken >> q & 1) == 1) {
                have |= keysAt(0, q);
                open |= 1 << homes.get(q);
            }
        }
        return comes(have, open);
    }

    int wake(int p, int h, boolean own) {
        int all = wakeable(p);
        int best = NONE;
        for (int set = 0; set <= all; set++) {
            boolean fewer = best == NONE || Integer.bitCount(set) < best;
            if ((set & ~all) == 0 && fewer && (comesWoken(p, set, own) >> h & 1) == 1) {
                best = Integer.bitCount(set);
                asked = set;
            }
        }
        return best;
    }

    /** Upper and lower number. */
    BigInteger[] odds(int p, int h, boolean own) {
        int all = wakeable(p);
        BigInteger upper = BigInteger.ZERO;
        BigInteger lower = BigInteger.TWO.add(BigInteger.TEN).pow(Integer.bitCount(all));
        for (int set = 0; set <= all; set++) {
            if ((set & ~all) != 0 || (comesWoken(p, set, own) >> h & 1) == 0) {
                continue;
            }
            long part = 1;
            for (int q = 0; q < homes.size(); q++) {
                if ((all >> q & 1) == 1) {
                    part *= (set >> q & 1) == 1 ? answers.get(q) : 12 - answers.get(q);
                }
            }
            upper = upper.add(BigInteger.valueOf(part));
        }
        BigInteger common = upper.gcd(lower);
        return new BigInteger[] {upper.divide(common), lower.divide(common)};
    }

    /** By where he stands, ahead of which HOUSES he has looked and in which he has been. */
    int way(int p, int goal, boolean own, boolean home) {
        int start = Math.max(0, homes.get(p));
        int all = wakeable(p);
        Map<Integer, Integer> minutes = new HashMap<>();
        ArrayDeque<Integer> queue = new ArrayDeque<>();
        minutes.put(start << 12, 0);
        queue.add(start << 12);
        while (!queue.isEmpty()) {
            int state = queue.poll();
            int at = state >> 12;
            int looked = state >> 6 & 63;
            int been = state & 63;
            int minute = minutes.get(state);
            if ((been & goal) == goal && (!home || at == start)) {
                return minute;
            }
            List<Integer> next = new ArrayList<>();
            if (at > 0) {
                next.add(at - 1 << 12 | looked << 6 | been);
            }
            if (at + 1 < costs.size()) {
                next.add(at + 1 << 12 | looked << 6 | been);
            }
            next.add(at << 12 | (looked | 1 << at) << 6 | been);
            if (opened(p, at, looked, been, own, all)) {
                next.add(at << 12 | looked << 6 | been | 1 << at);
            }
            for (int n : next) {
                if (minutes.putIfAbsent(n, minute + 1) == null) {
                    queue.add(n);
                }
            }
        }
        return NONE;
    }

    private boolean opened(int p, int at, int looked, int been, boolean own, int wakeable) {
        int have = own ? keysAt(0, p) : 0;
        for (int h = 0; h < costs.size(); h++) {
            have |= (looked >> h & 1) == 1 ? keysAt(1, h) : 0;
            have |= (been >> h & 1) == 1 ? keysAt(2, h) : 0;
        }
        for (int q = 0; q < homes.size(); q++) {
            if ((wakeable >> q & 1) == 1 && (looked >> homes.get(q) & 1) == 1) {
                have |= keysAt(0, q);
                if (homes.get(q) == at) {
                    return true;
                }
            }
        }
        return hasKey(have, at);
    }

    int stuck() {
        int shut = ~comes(keysAt(0, -1) | keysAt(1, -1), 0) & (1 << costs.size()) - 1;
        asked = 0;
        for (int h = 0; h < costs.size(); h++) {
            asked |= (shut >> h & 1) == 1 && !hasKey(-1, h) ? 1 << h : 0;
        }
        return shut;
    }

    // ---- plans, suspects, rings

    private boolean livedIn(int h) {
        return homes.contains(h);
    }

    private boolean helps(int x, int h) {
        if (x == h || !livedIn(x)) {
            return false;
        }
        for (int a = 0; a < homes.size(); a++) {
            for (int b = 0; b < homes.size(); b++) {
                if (homes.get(a) == x && homes.get(b) == h && (trust[a][b] < 0 || trust[b][a] < 0)) {
                    return false;
                }
            }
        }
        return true;
    }

    private boolean houseHasKey(int x, int h) {
        for (int p = 0; p < homes.size(); p++) {
            if (homes.get(p) == x && hasKey(keysAt(0, p), h)) {
                return true;
            }
        }
        return false;
    }

    /** Pairs of the first PLAN, or null. */
    List<Integer> safe(int n, int m) {
        int[] sets = new int[6];
        if (!planFrom(0, n, m, sets, new int[6])) {
            return null;
        }
        List<Integer> pairs = new ArrayList<>();
        for (int h = 0; h < 6; h++) {
            for (int x = 0; x < 6; x++) {
                if ((sets[h] >> x & 1) == 1) {
                    pairs.add(h);
                    pairs.add(x);
                }
            }
        }
        return pairs;
    }

    private boolean planFrom(int h, int n, int m, int[] sets, int[] given) {
        if (h == costs.size()) {
            return true;
        }
        int may = 0;
        int need = livedIn(h) ? n + 1 : 0;
        for (int x = 0; x < costs.size(); x++) {
            if (helps(x, h)) {
                need -= need > 0 && houseHasKey(x, h) ? 1 : 0;
                may |= houseHasKey(x, h) ? 0 : 1 << x;
            }
        }
        for (int set = 0; set < 64; set++) {
            if ((set & ~may) != 0 || Integer.bitCount(set) != need) {
                continue;
            }
            int[] after = given.clone();
            boolean room = true;
            for (int x = 0; x < 6; x++) {
                after[x] += set >> x & 1;
                room &= after[x] <= m;
            }
            sets[h] = set;
            if (room && planFrom(h + 1, n, m, sets, after)) {
                return true;
            }
        }
        return false;
    }

    private int livePassed(int p) {
        int set = 0;
        for (int k = 0; k < keys.size(); k++) {
            set |= live(k) && (keys.get(k).passed >> p & 1) == 1 ? 1 << k : 0;
        }
        return set;
    }

    int suspects(int h) {
        int byHimself = 0;
        asked = 0;
        for (int p = 0; p < homes.size(); p++) {
            if (homes.get(p) != h) {
                byHimself |= (alone(p) >> h & 1) << p;
                asked |= (comes(keysAt(0, p) | keysAt(1, -1) | livePassed(p), 0) >> h & 1) << p;
            }
        }
        return byHimself;
    }

    /** Sets of HOUSES whose KEYS that PASSED him are copied, one KEY a HOUSE being enough. */
    int copies(int p, int h) {
        int best = NONE;
        for (int set = 0; set < 1 << costs.size(); set++) {
            int have = keysAt(0, p) | keysAt(1, -1);
            int houses = 0;
            for (int k = 0; k < keys.size(); k++) {
                if ((livePassed(p) >> k & 1) == 1 && (set >> keys.get(k).house & 1) == 1) {
                    have |= 1 << k;
                    houses |= 1 << keys.get(k).house;
                }
            }
            boolean fewer = best == NONE || Integer.bitCount(set) < best;
            if (houses == set && fewer && (comes(have, 0) >> h & 1) == 1) {
                best = Integer.bitCount(set);
                asked = set;
            }
        }
        return best;
    }

    int dead(int h) {
        int count = 0;
        asked = 0;
        for (int k = 0; k < keys.size(); k++) {
            if (keys.get(k).house == h && !live(k)) {
                count++;
                asked |= keys.get(k).where == 0 ? 1 << keys.get(k).who : 0;
            }
        }
        return count;
    }

    List<Integer> lost(int p) {
        List<Integer> doors = new ArrayList<>();
        asked = 0;
        for (int h = 0; h < costs.size(); h++) {
            if (hasKey(keysAt(0, p), h)) {
                doors.add(h);
                asked += costs.get(h);
            }
        }
        doors.sort((x, y) -> {
            int risk = Integer.bitCount(comes(0, 1 << y)) - Integer.bitCount(comes(0, 1 << x));
            int cost = costs.get(x) - costs.get(y);
            return risk != 0 ? risk : cost != 0 ? cost : x - y;
        });
        return doors;
    }

    long digestOfStreet(long h) {
        for (int i = 0; i < costs.size(); i++) {
            int liveKeys = 0;
            for (int k = 0; k < keys.size(); k++) {
                liveKeys |= keys.get(k).house == i && live(k) ? 1 << k : 0;
            }
            int people = 0;
            for (int p = 0; p < homes.size(); p++) {
                people |= homes.get(p) == i ? 1 << p : 0;
            }
            h = 31 * (31 * (31 * (31 * h + costs.get(i)) + changes[i]) + liveKeys) + people;
        }
        for (int p = 0; p < homes.size(); p++) {
            h = 31 * (31 * (31 * h + homes.get(p)) + answers.get(p)) + keysAt(0, p);
            for (int b = 0; b < homes.size(); b++) {
                h = b == p ? h : 31 * h + trust[p][b];
            }
        }
        for (int k = 0; k < keys.size(); k++) {
            Key key = keys.get(k);
            h = 31 * (31 * (31 * h + key.house) + (live(k) ? 1 : 0)) + key.where;
            h = 31 * (31 * h + key.who) + key.passed;
        }
        for (Event e : events) {
            h = 31 * (31 * (31 * (31 * h + e.kind()) + e.a()) + e.b()) + e.change();
        }
        return h;
    }
}
