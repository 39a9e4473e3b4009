import java.math.BigInteger;
import java.util.ArrayList;
import java.util.List;
import java.util.Random;

/** Streets and years drawn from fixed seeds: the class has to answer as the plain Model does. */
public final class ModelTest {
    private static final Due due = new Due("ModelTest");
    private static final int RUNS = 400;

    private final Random random;
    private final Drawn drawn;
    private final Model model = new Model();
    private final String name;
    private String street = "";
    private StreetKeys x = new StreetKeys();

    private ModelTest(int seed) {
        random = new Random(seed);
        drawn = new Drawn(random);
        name = "seed " + seed + ": ";
    }

    public static void main(String[] args) {
        due.promise(0, "all, against the model");
        for (int seed = 0; seed < RUNS; seed++) {
            new ModelTest(seed).run();
            new ModelTest(RUNS + seed).tightPlans();
        }
        due.end();
    }

    private void run() {
        for (int i = 0; i < 30; i++) {
            faultOfStreet(drawn.marred(drawn.street(6, 12)));
        }
        street = drawn.street(6, 12);
        faultOfStreet(street);
        model.readStreet(street);
        due.is(name + "street " + street, x.street(0), model.costs.size());
        for (int i = 0; i < 8; i++) {
            anew();
            faultOfYear(drawn.marred(drawn.year(model, 1 + random.nextInt(14))));
            anew();
            year(drawn.year(model, 1 + random.nextInt(8)));
            for (int j = 0; j < 3; j++) {
                event();
            }
            if (random.nextInt(6) == 0) {
                goBack();
            }
            anew();
            questions();
        }
    }

    /** What calls behind the 512th answer is free: so all that there is comes to a new object. */
    private void anew() {
        x = new StreetKeys();
        Due.write(x, 0, street);
        x.street(0);
        for (Model.Event e : model.events) {
            x.event(e.kind(), e.a(), e.b(), e.change() > 0);
        }
    }

    /** Streets in which somebody lives nearly everywhere, so that keys have just about enough room. */
    private void tightPlans() {
        int houses = 4 + random.nextInt(3);
        StringBuilder s = new StringBuilder("h1".repeat(houses));
        for (int p = 0; p < houses + random.nextInt(3); p++) {
            s.append('p').append(p < houses ? p : random.nextInt(houses)).append(":1");
        }
        street = s.toString();
        model.readStreet(street);
        anew();
        for (int i = random.nextInt(12); i > 0; i--) {
            boolean keys = random.nextInt(3) > 0;
            int a = random.nextInt(houses);
            int b = random.nextInt(houses);
            if (x.event(keys ? 1 : 7, a, b, false) >= 0) {
                model.events.add(new Model.Event(keys ? 1 : 7, a, b, keys ? 0 : -1));
            }
        }
        model.settle();
        for (int n = 1; n < 3; n++) {
            for (int m = 0; m < 6; m++) {
                anew();
                plan(n, m);
            }
        }
    }

    private void faultOfStreet(String text) {
        x = new StreetKeys();
        Due.write(x, 0, text);
        int fault = Model.streetFault(text);
        due.is(name + "fault of street '" + text + "'", x.fault(0, false), fault);
        if (fault != -9) {
            due.is(name + "street '" + text + "'", x.street(0), -4);
        }
    }

    private void faultOfYear(String text) {
        Due.write(x, 1, text);
        int fault = model.yearFault(text, new ArrayList<>());
        due.is(name + "fault of year '" + text + "'", x.fault(1, true), fault);
        if (fault != -9) {
            due.is(name + "year '" + text + "'", x.year(1), -4);
        }
    }

    private void year(String text) {
        List<Model.Event> more = new ArrayList<>();
        Due.write(x, 1, text);
        int fault = model.yearFault(text, more);
        due.is(name + "fault of year '" + text + "'", x.fault(1, true), fault);
        due.is(name + "year '" + text + "'", x.year(1), fault != -9 ? -4 : more.size());
        if (fault == -9) {
            model.events.addAll(more);
            model.settle();
        }
    }

    private void event() {
        int kind = random.nextInt(9);
        int a = random.nextInt(8) - 1;
        int b = random.nextInt(8) - 1;
        boolean more = random.nextBoolean();
        boolean house = a >= 0 && a < model.costs.size();
        boolean key = a >= 0 && a < model.keys.size();
        boolean toPerson = b >= 0 && b < model.homes.size();
        boolean toHouse = b >= 0 && b < model.costs.size();
        boolean[] good = {false, house && toPerson, key && toPerson, key && toPerson, key && toHouse,
            key && toHouse, house, a >= 0 && a < model.homes.size() && toPerson && a != b, false};
        int number = model.events.size();
        boolean full = number == 40 || model.keys.size() == 24 && (kind == 1 || kind == 2);
        int want = !good[kind] ? -1 : full ? -2 : number;
        due.is(name + "event(" + kind + ", " + a + ", " + b + ")", x.event(kind, a, b, more), want);
        if (want >= 0) {
            model.events.add(new Model.Event(kind, a, kind == 6 ? 0 : b, kind != 7 ? 0 : more ? 1 : -1));
            model.settle();
        }
    }

    private void goBack() {
        int n = random.nextInt(model.events.size() + 1);
        int size = model.events.size();
        due.is(name + "back(" + n + ")", x.back(n), size - n);
        model.events.subList(n, size).clear();
        model.settle();
    }

    private void asks(String call, int got, int want) {
        due.is(name + call, got, want);
        if (want != -9 && got == want) {
            due.is(name + call + " asked", x.asked(), model.asked);
        }
    }

    private void questions() {
        asks("stuck", x.stuck(), model.stuck());
        digest();
        plan(1 + random.nextInt(2), random.nextInt(random.nextBoolean() ? 4 : 10));
        for (int h = 0; h < model.costs.size(); h++) {
            asks("suspects(" + h + ")", x.suspects(h), model.suspects(h));
            asks("dead(" + h + ")", x.dead(h), model.dead(h));
        }
        for (int i = 0; i < 2 && !model.homes.isEmpty(); i++) {
            int p = random.nextInt(model.homes.size());
            due.is(name + "alone(" + p + ")", x.alone(p), model.alone(p));
            ring(p);
            for (int h = 0; h < model.costs.size(); h++) {
                if (model.homes.get(p) != h) {
                    asks("copies(" + p + ", " + h + ")", x.copies(p, h), model.copies(p, h));
                }
            }
            if (!model.costs.isEmpty()) {
                comesIn(p, random.nextInt(model.costs.size()), random.nextBoolean());
            }
        }
    }

    private void comesIn(int p, int h, boolean own) {
        String call = "(" + p + ", " + h + ", " + own + ")";
        asks("wake" + call, x.wake(p, h, own), model.wake(p, h, own));
        BigInteger[] odds = model.odds(p, h, own);
        due.is(name + "odds" + call, x.odds(p, h, own), Integer.bitCount(model.wakeable(p)));
        due.is(name + "odds" + call + " upper", x.upper(), odds[0].longValueExact());
        due.is(name + "odds" + call + " lower", x.lower(), odds[1].longValueExact());
        due.is(name + "soonest" + call, x.soonest(p, h, own), model.way(p, 1 << h, own, false));
        int set = random.nextInt(1 << model.costs.size());
        String round = "round(" + p + ", " + set + ", " + own + ")";
        due.is(name + round, x.round(p, set, own), model.way(p, set, own, true));
    }

    private void plan(int n, int m) {
        x.row(2, 1);
        x.lay(2, 0, 77);
        List<Integer> plan = model.safe(n, m);
        String call = "safe(" + n + ", " + m + ")";
        due.is(name + call, x.safe(n, m, 2), plan == null ? -9 : plan.size() / 2);
        rowIs(call, 2, plan == null ? List.of(77) : plan);
    }

    private void ring(int p) {
        List<Integer> doors = model.lost(p);
        asks("lost(" + p + ")", x.lost(p, 3), doors.size());
        rowIs("lost(" + p + ")", 3, doors);
    }

    private void rowIs(String call, int r, List<Integer> places) {
        for (int i = 0; i < places.size(); i++) {
            due.is(name + call + " at " + i, x.at(r, i) == 1 ? x.asked() : -100, places.get(i));
        }
        due.is(name + call + " at the end", x.at(r, places.size()), -3);
    }

    /** With all ROWS and TEXTS missing but two that are empty. */
    private void digest() {
        for (int r = 0; r < 6; r++) {
            x.tear(r);
        }
        x.text(0, 0);
        x.text(1, 0);
        int live = 0;
        for (int k = 0; k < model.keys.size(); k++) {
            live += model.live(k) ? 1 : 0;
        }
        int keys = model.keys.size();
        int[] counts = {model.costs.size(), model.homes.size(), keys, live, model.events.size(), keys, 0, 2};
        long h = 17;
        for (int c : counts) {
            h = 31 * h + c;
        }
        h = model.digestOfStreet(h);
        for (int v : new int[] {-1, -1, -1, -1, -1, -1, 0, 0, -1, -1}) {
            h = 31 * h + v;
        }
        due.is(name + "digest", x.digest(), h);
    }
}
