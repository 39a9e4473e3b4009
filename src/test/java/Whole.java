import java.math.BigInteger;
import java.util.ArrayList;
import java.util.Collections;
import java.util.List;

/**
 * Every call of the face, by plain lists and by Model: what an object has to answer, call behind
 * call, with all that stays from one to the next. A boolean is given as 1 or 0.
 */
final class Whole {
    private static final int BAD = -1, FULL = -2, STATE = -4, NONE = -9;
    private static final int NOTHING = 1, BEYOND = 2, UNLIKE = 3, NOUGHT = 4, SIZE = 5;

    final Model model = new Model();
    private final List<List<Integer>> rows = missing(6);
    private final List<List<Integer>> texts = missing(4);
    private final int[] findings = new int[6];
    private int finding;
    private int asked;
    private BigInteger upper = BigInteger.ZERO;
    private BigInteger lower = BigInteger.ONE;

    private static List<List<Integer>> missing(int count) {
        List<List<Integer>> all = new ArrayList<>();
        for (int i = 0; i < count; i++) {
            all.add(null);
        }
        return all;
    }

    long answer(String name, int... a) {
        return switch (name) {
            case "row" -> anew(rows, a[0], a[1], 40, 0);
            case "text" -> anew(texts, a[0], a[1], 120, 32);
            case "lay", "at", "put" -> place(name, a);
            case "tear", "mean" -> wholeRow(name, a[0]);
            case "copy" -> copy(a);
            case "fault", "street", "year" -> text(name, a);
            case "event", "back", "told", "mark" -> events(name, a);
            case "house", "person", "key", "trust" -> details(name, a);
            case "alone", "wake", "odds", "soonest", "round", "stuck" -> comes(name, a);
            case "safe", "suspects", "copies", "dead", "lost" -> plans(name, a);
            case "asked" -> asked;
            case "upper" -> upper.longValueExact();
            case "lower" -> lower.longValueExact();
            case "count" -> a[0] < 0 || a[0] > 7 ? BAD : count(a[0]);
            case "finding" -> finding;
            case "findings" -> a[0] < 1 || a[0] > 5 ? BAD : findings[a[0]];
            case "digest" -> digest();
            default -> throw new IllegalArgumentException(name);
        };
    }

    private int found(int which) {
        finding = which;
        findings[which]++;
        return -3;
    }

    private int tell(int answer, int what) {
        asked = what;
        return answer;
    }

    private static boolean in(int v, int size) {
        return v >= 0 && v < size;
    }

    private boolean isHouse(int h) {
        return in(h, model.costs.size());
    }

    private boolean isPerson(int p) {
        return in(p, model.homes.size());
    }

    private boolean isKey(int k) {
        return in(k, model.keys.size());
    }

    // ---- rows and texts

    private int anew(List<List<Integer>> all, int r, int n, int most, int fill) {
        if (!in(r, all.size()) || n > most) {
            return BAD;
        }
        if (n < 0) {
            return found(SIZE);
        }
        all.set(r, new ArrayList<>(Collections.nCopies(n, fill)));
        return n;
    }

    private int place(String name, int[] a) {
        List<List<Integer>> all = name.equals("put") ? texts : rows;
        if (!in(a[0], all.size())) {
            return BAD;
        }
        List<Integer> row = all.get(a[0]);
        if (row == null) {
            return found(NOTHING);
        }
        if (!in(a[1], row.size())) {
            return found(BEYOND);
        }
        int was = row.get(a[1]);
        if (name.equals("put")) {
            row.set(a[1], (int) (byte) a[2]);
            return was + 1000;
        }
        if (name.equals("lay")) {
            row.set(a[1], a[2]);
        }
        return tell(1, was);
    }

    private int wholeRow(String name, int r) {
        if (!in(r, 6)) {
            return BAD;
        }
        if (rows.get(r) == null) {
            return found(NOTHING);
        }
        if (name.equals("tear")) {
            rows.set(r, null);
            return 1;
        }
        if (rows.get(r).isEmpty()) {
            return found(NOUGHT);
        }
        BigInteger sum = BigInteger.ZERO;
        for (int v : rows.get(r)) {
            sum = sum.add(BigInteger.valueOf(v));
        }
        return tell(1, sum.divide(BigInteger.valueOf(rows.get(r).size())).intValueExact());
    }

    private int copy(int[] a) {
        if (!in(a[0], 6) || !in(a[2], 6)) {
            return BAD;
        }
        List<Integer> from = rows.get(a[0]);
        List<Integer> to = rows.get(a[2]);
        if (a[4] < 0) {
            return found(SIZE);
        }
        if (from == null || to == null) {
            return found(NOTHING);
        }
        if (a[1] < 0 || a[3] < 0 || (long) a[1] + a[4] > from.size() || (long) a[3] + a[4] > to.size()) {
            return found(BEYOND);
        }
        List<Integer> taken = new ArrayList<>(from.subList(a[1], a[1] + a[4]));
        for (int i = 0; i < taken.size(); i++) {
            to.set(a[3] + i, taken.get(i));
        }
        return 1;
    }

    private int text(String name, int[] a) {
        if (!in(a[0], 4)) {
            return BAD;
        }
        if (texts.get(a[0]) == null) {
            return found(NOTHING);
        }
        StringBuilder s = new StringBuilder();
        for (int v : texts.get(a[0])) {
            s.append((char) (v & 255));
        }
        String signs = s.toString();
        boolean year = name.equals("year") || name.equals("fault") && a[1] == 1;
        List<Model.Event> more = new ArrayList<>();
        int fault = year ? model.yearFault(signs, more) : Model.streetFault(signs);
        if (name.equals("fault")) {
            return fault;
        }
        if (fault != NONE) {
            return STATE;
        }
        if (!year) {
            model.readStreet(signs);
            return model.costs.size();
        }
        model.events.addAll(more);
        model.settle();
        return more.size();
    }

    // ---- events

    private int events(String name, int[] a) {
        int size = model.events.size();
        if (name.equals("event")) {
            return event(a[0], a[1], a[2], a[3] == 1);
        }
        if (name.equals("back")) {
            if (!in(a[0], size + 1)) {
                return BAD;
            }
            model.events.subList(a[0], size).clear();
            model.settle();
            return size - a[0];
        }
        if (!in(a[0], size)) {
            return BAD;
        }
        Model.Event e = model.events.get(a[0]);
        if (name.equals("told")) {
            return in(a[1], 4) ? tell(1, new int[] {e.kind(), e.a(), e.b(), e.change()}[a[1]]) : BAD;
        }
        return a[1] < 1 || a[1] > 7 ? BAD : mark(a[0], e, a[1]);
    }

    private int mark(int number, Model.Event e, int kind) {
        boolean is = e.kind() == kind || kind == 1 && e.kind() == 2 || kind == 4 && e.kind() == 5;
        if (!is) {
            return found(UNLIKE);
        }
        int made = 0;
        for (Model.Event ahead : model.events.subList(0, number)) {
            made += ahead.kind() == 1 || ahead.kind() == 2 ? 1 : 0;
        }
        return new int[] {0, made, e.a(), e.b(), e.b(), e.a(), e.a(), e.a()}[kind];
    }

    private int event(int kind, int a, int b, boolean more) {
        boolean good = switch (kind) {
            case 1 -> isHouse(a) && isPerson(b);
            case 2, 3 -> isKey(a) && isPerson(b);
            case 4, 5 -> isKey(a) && isHouse(b);
            case 6 -> isHouse(a);
            case 7 -> isPerson(a) && isPerson(b) && a != b;
            default -> false;
        };
        if (!good) {
            return BAD;
        }
        if (model.events.size() == 40 || kind <= 2 && model.keys.size() == 24) {
            return FULL;
        }
        model.events.add(new Model.Event(kind, a, kind == 6 ? 0 : b, kind != 7 ? 0 : more ? 1 : -1));
        model.settle();
        return model.events.size() - 1;
    }

    // ---- what is

    private int details(String name, int[] a) {
        switch (name) {
            case "house":
                return isHouse(a[0]) && in(a[1], 4) ? tell(1, house(a[0], a[1])) : BAD;
            case "person":
                return isPerson(a[0]) && in(a[1], 3) ? tell(1, person(a[0], a[1])) : BAD;
            case "key":
                return isKey(a[0]) && in(a[1], 5) ? tell(1, key(a[0], a[1])) : BAD;
            default:
                boolean good = isPerson(a[0]) && isPerson(a[1]) && a[0] != a[1];
                return good ? tell(1, model.trust[a[0]][a[1]]) : BAD;
        }
    }

    private int house(int h, int what) {
        int live = 0;
        for (int k = 0; k < model.keys.size(); k++) {
            live |= model.keys.get(k).house == h && model.live(k) ? 1 << k : 0;
        }
        int people = 0;
        for (int p = 0; p < model.homes.size(); p++) {
            people |= model.homes.get(p) == h ? 1 << p : 0;
        }
        return new int[] {model.costs.get(h), model.changes[h], live, people}[what];
    }

    private int person(int p, int what) {
        return new int[] {model.homes.get(p), model.answers.get(p), model.keysAt(0, p)}[what];
    }

    private int key(int k, int what) {
        Model.Key key = model.keys.get(k);
        return new int[] {key.house, model.live(k) ? 1 : 0, key.where, key.who, key.passed}[what];
    }

    // ---- who comes in

    private int comes(String name, int[] a) {
        if (name.equals("stuck")) {
            return tell(model.stuck(), model.asked);
        }
        if (!isPerson(a[0])) {
            return BAD;
        }
        if (name.equals("alone")) {
            return model.alone(a[0]);
        }
        boolean own = a[2] == 1;
        if (name.equals("round")) {
            return in(a[1], 1 << model.costs.size()) ? model.way(a[0], a[1], own, true) : BAD;
        }
        if (!isHouse(a[1])) {
            return BAD;
        }
        if (name.equals("soonest")) {
            return model.way(a[0], 1 << a[1], own, false);
        }
        if (name.equals("wake")) {
            int fewest = model.wake(a[0], a[1], own);
            return fewest == NONE ? NONE : tell(fewest, model.asked);
        }
        BigInteger[] odds = model.odds(a[0], a[1], own);
        upper = odds[0];
        lower = odds[1];
        return Integer.bitCount(model.wakeable(a[0]));
    }

    private int plans(String name, int[] a) {
        switch (name) {
            case "safe":
                return in(a[0] - 1, 2) && in(a[1], 10) && in(a[2], 6) ? safe(a[0], a[1], a[2]) : BAD;
            case "suspects":
                return isHouse(a[0]) ? tell(model.suspects(a[0]), model.asked) : BAD;
            case "dead":
                return isHouse(a[0]) ? tell(model.dead(a[0]), model.asked) : BAD;
            case "lost":
                return isPerson(a[0]) && in(a[1], 6) ? lost(a[0], a[1]) : BAD;
            default:
                return isPerson(a[0]) && isHouse(a[1]) && model.homes.get(a[0]) != a[1] ? copies(a[0], a[1]) : BAD;
        }
    }

    private int safe(int n, int m, int r) {
        List<Integer> pairs = model.safe(n, m);
        if (pairs == null) {
            return NONE;
        }
        rows.set(r, new ArrayList<>(pairs));
        return pairs.size() / 2;
    }

    private int lost(int p, int r) {
        rows.set(r, model.lost(p));
        return tell(rows.get(r).size(), model.asked);
    }

    private int copies(int p, int h) {
        int fewest = model.copies(p, h);
        return fewest == NONE ? NONE : tell(fewest, model.asked);
    }

    // ---- what is told

    private int count(int what) {
        int live = 0;
        for (int k = 0; k < model.keys.size(); k++) {
            live += model.live(k) ? 1 : 0;
        }
        int made = 0;
        for (Model.Event e : model.events) {
            made += e.kind() == 1 || e.kind() == 2 ? 1 : 0;
        }
        return new int[] {model.costs.size(), model.homes.size(), model.keys.size(), live, model.events.size(), made,
            there(rows), there(texts)}[what];
    }

    private static int there(List<List<Integer>> all) {
        int there = 0;
        for (List<Integer> row : all) {
            there += row != null ? 1 : 0;
        }
        return there;
    }

    private long digest() {
        long h = 17;
        for (int what = 0; what < 8; what++) {
            h = 31 * h + count(what);
        }
        h = model.digestOfStreet(h);
        for (List<List<Integer>> all : List.of(rows, texts)) {
            for (List<Integer> row : all) {
                h = 31 * h + (row == null ? -1 : row.size());
                for (int v : row == null ? List.<Integer>of() : row) {
                    h = 31 * h + v;
                }
            }
        }
        return h;
    }
}
