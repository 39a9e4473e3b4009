/** Each promise of the document by itself: ordinary inputs, edges, wrong inputs. */
public final class PromiseTest {
    private static final Due due = new Due("PromiseTest");
    private static final int MIN = Integer.MIN_VALUE, MAX = Integer.MAX_VALUE;

    public static void main(String[] args) {
        newObject();
        rowAndLayAndAtAndTear();
        copyPlaces();
        meanOfRow();
        textAndPut();
        faultOfStreet();
        faultOfYear();
        streetAndYear();
        eventFull();
        eventsOneByOne();
        backGoes();
        toldAndMark();
        houseAndPerson();
        keyAndTrust();
        aloneComes();
        wakeAndOdds();
        soonestWay();
        roundWay();
        stuckHouses();
        safePlans();
        safeOrder();
        suspectsAndCopies();
        deadKeys();
        lostRing();
        whatIsTold();
        digestOfAll();
        due.end();
    }

    private static void asks(StreetKeys x, String call, int got, int told) {
        due.is(call, got, 1);
        due.is(call + " asked", x.asked(), told);
    }

    private static void asks(StreetKeys x, String call, int got, int want, int told) {
        due.is(call, got, want);
        due.is(call + " asked", x.asked(), told);
    }

    private static void finds(StreetKeys x, String call, int got, int finding) {
        due.is(call, got, -3);
        due.is(call + " finding", x.finding(), finding);
    }

    private static void newObject() {
        due.promise(1, "new");
        StreetKeys x = new StreetKeys();
        for (int what = 0; what < 8; what++) {
            due.is("count(" + what + ")", x.count(what), 0);
        }
        for (int f = 1; f < 6; f++) {
            due.is("findings(" + f + ")", x.findings(f), 0);
        }
        due.is("asked", x.asked(), 0);
        due.is("upper", x.upper(), 0);
        due.is("lower", x.lower(), 1);
        due.is("finding", x.finding(), 0);
        for (int r = 0; r < 6; r++) {
            due.is("at(" + r + ", 0)", x.at(r, 0), -3);
        }
        for (int t = 0; t < 4; t++) {
            due.is("put(" + t + ", 0, 1)", x.put(t, 0, 1), -3);
        }
        due.is("stuck", x.stuck(), 0);
    }

    private static void rowAndLayAndAtAndTear() {
        due.promise(2, "row");
        StreetKeys x = new StreetKeys();
        due.is("row(0, 40)", x.row(0, 40), 40);
        due.is("row(5, 0)", x.row(5, 0), 0);
        due.is("row(5, 41)", x.row(5, 41), -1);
        due.is("row(-1, 3)", x.row(-1, 3), -1);
        due.is("row(6, 3)", x.row(6, 3), -1);
        due.is("row(6, -3)", x.row(6, -3), -1);
        due.is("row(MIN, MIN)", x.row(MIN, MIN), -1);
        due.is("finding", x.finding(), 0);
        finds(x, "row(5, -1)", x.row(5, -1), 5);
        finds(x, "row(5, MIN)", x.row(5, MIN), 5);
        due.is("count(6)", x.count(6), 2);
        due.promise(3, "lay");
        asks(x, "lay(0, 39, 7)", x.lay(0, 39, 7), 0);
        asks(x, "lay(0, 39, MIN)", x.lay(0, 39, MIN), 7);
        due.is("lay(6, 0, 1)", x.lay(6, 0, 1), -1);
        due.is("lay(-1, 0, 1)", x.lay(-1, 0, 1), -1);
        finds(x, "lay(1, 0, 1)", x.lay(1, 0, 1), 1);
        finds(x, "lay(0, 40, 1)", x.lay(0, 40, 1), 2);
        finds(x, "lay(0, -1, 1)", x.lay(0, -1, 1), 2);
        finds(x, "lay(5, 0, 1)", x.lay(5, 0, 1), 2);
        due.promise(4, "at");
        asks(x, "at(0, 39)", x.at(0, 39), MIN);
        asks(x, "at(0, 38)", x.at(0, 38), 0);
        due.is("at(6, 0)", x.at(6, 0), -1);
        due.is("at(MIN, 0)", x.at(MIN, 0), -1);
        finds(x, "at(1, 0)", x.at(1, 0), 1);
        finds(x, "at(0, 40)", x.at(0, 40), 2);
        finds(x, "at(0, MAX)", x.at(0, MAX), 2);
        finds(x, "at(0, MIN)", x.at(0, MIN), 2);
        due.is("row(0, 40) anew", x.row(0, 40), 40);
        asks(x, "at(0, 39)", x.at(0, 39), 0);
        due.promise(5, "tear");
        due.is("tear(0)", x.tear(0), 1);
        finds(x, "tear(0)", x.tear(0), 1);
        finds(x, "at(0, 0)", x.at(0, 0), 1);
        due.is("tear(6)", x.tear(6), -1);
        due.is("tear(-1)", x.tear(-1), -1);
        due.is("count(6)", x.count(6), 1);
    }

    private static void copyPlaces() {
        due.promise(6, "copy");
        StreetKeys x = new StreetKeys();
        x.row(0, 5);
        for (int i = 0; i < 5; i++) {
            x.lay(0, i, i + 1);
        }
        x.row(1, 3);
        due.is("copy(0, 0, 0, 1, 4)", x.copy(0, 0, 0, 1, 4), 1);
        rowIs(x, 0, 1, 1, 2, 3, 4);
        due.is("copy(0, 1, 0, 0, 4)", x.copy(0, 1, 0, 0, 4), 1);
        rowIs(x, 0, 1, 2, 3, 4, 4);
        due.is("copy(0, 2, 1, 0, 3)", x.copy(0, 2, 1, 0, 3), 1);
        rowIs(x, 1, 3, 4, 4);
        due.is("copy(0, 5, 1, 3, 0)", x.copy(0, 5, 1, 3, 0), 1);
        rowIs(x, 1, 3, 4, 4);
        finds(x, "copy(0, 6, 1, 0, 0)", x.copy(0, 6, 1, 0, 0), 2);
        finds(x, "copy(0, 0, 1, 4, 0)", x.copy(0, 0, 1, 4, 0), 2);
        finds(x, "copy(0, 0, 1, 0, 4)", x.copy(0, 0, 1, 0, 4), 2);
        finds(x, "copy(1, 1, 0, 0, 3)", x.copy(1, 1, 0, 0, 3), 2);
        finds(x, "copy(0, -1, 1, 0, 1)", x.copy(0, -1, 1, 0, 1), 2);
        finds(x, "copy(0, 0, 1, -1, 1)", x.copy(0, 0, 1, -1, 1), 2);
        finds(x, "copy(0, MAX, 1, 0, MAX)", x.copy(0, MAX, 1, 0, MAX), 2);
        finds(x, "copy(0, 1, 1, 1, MAX)", x.copy(0, 1, 1, 1, MAX), 2);
        finds(x, "copy(2, 9, 0, 9, 9)", x.copy(2, 9, 0, 9, 9), 1);
        finds(x, "copy(0, 9, 2, 9, 9)", x.copy(0, 9, 2, 9, 9), 1);
        finds(x, "copy(2, 0, 3, 0, -1)", x.copy(2, 0, 3, 0, -1), 5);
        finds(x, "copy(0, 0, 1, 0, MIN)", x.copy(0, 0, 1, 0, MIN), 5);
        due.is("copy(6, 0, 0, 0, -1)", x.copy(6, 0, 0, 0, -1), -1);
        due.is("copy(0, 0, 6, 0, 0)", x.copy(0, 0, 6, 0, 0), -1);
        due.is("copy(-1, 0, 0, 0, 0)", x.copy(-1, 0, 0, 0, 0), -1);
        due.is("copy(0, 0, -1, 0, 0)", x.copy(0, 0, -1, 0, 0), -1);
        rowIs(x, 0, 1, 2, 3, 4, 4);
    }

    private static void rowIs(StreetKeys x, int r, int... places) {
        for (int i = 0; i < places.length; i++) {
            asks(x, "at(" + r + ", " + i + ")", x.at(r, i), places[i]);
        }
        due.is("at behind the end", x.at(r, places.length), -3);
    }

    private static void meanOfRow() {
        due.promise(7, "mean");
        StreetKeys x = new StreetKeys();
        x.row(0, 3);
        x.lay(0, 0, MAX);
        x.lay(0, 1, MAX);
        x.lay(0, 2, MAX);
        asks(x, "mean of MAX", x.mean(0), MAX);
        x.lay(0, 0, -1);
        x.lay(0, 1, -2);
        x.lay(0, 2, -2);
        asks(x, "mean of -5 by 3", x.mean(0), -1);
        x.lay(0, 1, 7);
        asks(x, "mean of 4 by 3", x.mean(0), 1);
        x.row(2, 1);
        x.lay(2, 0, -7);
        asks(x, "mean of one", x.mean(2), -7);
        x.lay(0, 1, 0);
        asks(x, "mean of -3 by 3", x.mean(0), -1);
        x.tear(2);
        x.row(1, 0);
        finds(x, "mean(1)", x.mean(1), 4);
        finds(x, "mean(2)", x.mean(2), 1);
        due.is("mean(6)", x.mean(6), -1);
        due.is("mean(-1)", x.mean(-1), -1);
        due.is("asked stays", x.asked(), -1);
    }

    private static void textAndPut() {
        due.promise(8, "text");
        StreetKeys x = new StreetKeys();
        due.is("text(0, 120)", x.text(0, 120), 120);
        due.is("text(3, 0)", x.text(3, 0), 0);
        due.is("text(3, 121)", x.text(3, 121), -1);
        due.is("text(4, 1)", x.text(4, 1), -1);
        due.is("text(-1, 1)", x.text(-1, 1), -1);
        due.is("text(4, -1)", x.text(4, -1), -1);
        finds(x, "text(2, -1)", x.text(2, -1), 5);
        due.is("count(7)", x.count(7), 2);
        due.promise(9, "put");
        due.is("put(0, 119, 200)", x.put(0, 119, 200), 1032);
        due.is("put(0, 119, 255)", x.put(0, 119, 255), 944);
        due.is("put(0, 119, 256)", x.put(0, 119, 256), 999);
        due.is("put(0, 119, 128)", x.put(0, 119, 128), 1000);
        due.is("put(0, 119, 127)", x.put(0, 119, 127), 872);
        due.is("put(0, 119, -129)", x.put(0, 119, -129), 1127);
        due.is("put(0, 119, 0)", x.put(0, 119, 0), 1127);
        due.is("put(0, 0, 0)", x.put(0, 0, 0), 1032);
        finds(x, "put(0, 120, 1)", x.put(0, 120, 1), 2);
        finds(x, "put(0, -1, 1)", x.put(0, -1, 1), 2);
        finds(x, "put(3, 0, 1)", x.put(3, 0, 1), 2);
        finds(x, "put(1, 0, 1)", x.put(1, 0, 1), 1);
        due.is("put(4, 0, 1)", x.put(4, 0, 1), -1);
        due.is("put(-1, 0, 1)", x.put(-1, 0, 1), -1);
        due.is("text(0, 120) anew", x.text(0, 120), 120);
        due.is("put(0, 119, 1)", x.put(0, 119, 1), 1032);
    }

    private static void streetFault(String signs, int want) {
        StreetKeys x = new StreetKeys();
        Due.write(x, 2, signs);
        due.is("fault of street '" + signs + "'", x.fault(2, false), want);
        due.is("street '" + signs + "' refused", x.street(2) == -4 ? 1 : 0, want == -9 ? 0 : 1);
    }

    private static void faultOfStreet() {
        due.promise(10, "fault of a street");
        streetFault("", -9);
        streetFault("   ", -9);
        streetFault("  h5  h06p0:12  p1:00p-:7 ", -9);
        streetFault("h", 1);
        streetFault("h ", 1);
        streetFault("h 5", 1);
        streetFault("hh5", 1);
        streetFault("h5x", 2);
        streetFault("h5 5", 3);
        streetFault("h100", 3);
        streetFault("h99h00", -9);
        streetFault("p", 1);
        streetFault("p-", 2);
        streetFault("p-:", 3);
        streetFault("p- :1", 2);
        streetFault("p -:1", 1);
        streetFault("p0:1", 1);
        streetFault("p0:1h5", 1);
        streetFault("h5p1:1", 3);
        streetFault("h5px:1", 3);
        streetFault("h5p0;1", 4);
        streetFault("h5p00:1", 4);
        streetFault("h5p0:12", -9);
        streetFault("h5p0:13", 7);
        streetFault("h5p0:13 p9", 7);
        streetFault("h5p0:99", 7);
        streetFault("h5p0:012", 7);
        streetFault("h5p0:123", 7);
        streetFault("h5p0:-1", 5);
        streetFault("H5", 0);
        streetFault("  q", 2);
        streetFault("h5" + (char) 200, 2);
        streetFault("h1h1h1h1h1h1", -9);
        streetFault("h1h1h1h1h1h1 h1", 13);
        streetFault("h1h1h1h1h1h1p5:1", -9);
        streetFault("h1h1h1h1h1h1p6:1", 13);
        streetFault("p-:1".repeat(12), -9);
        streetFault("p-:1".repeat(13), 48);
        StreetKeys x = new StreetKeys();
        finds(x, "fault(0, false)", x.fault(0, false), 1);
        finds(x, "fault(3, true)", x.fault(3, true), 1);
        due.is("fault(4, true)", x.fault(4, true), -1);
        due.is("fault(-1, false)", x.fault(-1, false), -1);
    }

    private static void yearFault(String ahead, String signs, int want) {
        StreetKeys x = Due.street("h1h2p0:1p1:2p-:3", ahead);
        long before = x.count(4);
        Due.write(x, 2, signs);
        due.is("fault of year '" + signs + "'", x.fault(2, true), want);
        int came = x.year(2);
        due.is("year '" + signs + "' refused", came == -4 ? 1 : 0, want == -9 ? 0 : 1);
        due.is("events behind '" + signs + "'", x.count(4), before + Math.max(0, came));
    }

    private static void faultOfYear() {
        due.promise(10, "fault of a year");
        yearFault("", "", -9);
        yearFault("", "   ", -9);
        yearFault("", " m0>0  c0>1 g1>2 l0@1i1@0x1q0/1f2/0 ", -9);
        yearFault("", "m", 1);
        yearFault("", "m0", 2);
        yearFault("", "m0>", 3);
        yearFault("", "m0 >0", 2);
        yearFault("", "m 0>0", 1);
        yearFault("", "m2>0", 1);
        yearFault("", "m00>0", 2);
        yearFault("", "m0@0", 2);
        yearFault("", "m0>3", 4);
        yearFault("", "m0>02", -9);
        yearFault("", "m0>022", 5);
        yearFault("", "m0>22", 5);
        yearFault("", "c0>0", 2);
        yearFault("", "m0>0c0>0c1>0c2>0c3>3", 20);
        yearFault("", "m0>0g01>0", 7);
        yearFault("", "m0>0g00>0", -9);
        yearFault("", "m0>0g000>0", 7);
        yearFault("", "m0>0g0>x", 7);
        yearFault("", "m0>0g0/0", 6);
        yearFault("", "m0>0l0@2", 7);
        yearFault("", "m0>0l0@1", -9);
        yearFault("", "m0>0l0@11", 8);
        yearFault("", "m0>0l0>1", 6);
        yearFault("", "m0>0i0@x", 7);
        yearFault("", "m0>0i0@", 7);
        yearFault("", "i0@0", 2);
        yearFault("m0>0", "i0@0", -9);
        yearFault("m0>0", "i1@0", 2);
        yearFault("", "x2", 1);
        yearFault("", "x", 1);
        yearFault("", "x01", 2);
        yearFault("", "x1", -9);
        yearFault("", "q0/0", 4);
        yearFault("", "q0/00", 5);
        yearFault("", "q3/0", 2);
        yearFault("", "q0/3", 4);
        yearFault("", "q0>1", 2);
        yearFault("", "f02/01", -9);
        yearFault("", "f1/1 ", 4);
        yearFault("", "a", 0);
        yearFault("", "M0>0", 0);
        yearFault("", "m0>0h5", 4);
        yearFault("", "x0".repeat(40), -9);
        yearFault("", "x0".repeat(41), 80);
        yearFault("x0".repeat(39), "x0 x0", 3);
        yearFault("x0".repeat(39), "x0 y", 3);
        yearFault("x0".repeat(40), "  ", -9);
        yearFault("m0>0".repeat(23), "c0>0x0m0>0", 6);
        yearFault("m0>0".repeat(24), "c0>0", 0);
        yearFault("m0>0".repeat(24), "g23>2", -9);
        yearFault("m0>0".repeat(24), "g24>2", 3);
        StreetKeys bare = new StreetKeys();
        Due.write(bare, 0, "x0");
        due.is("fault with no street", bare.fault(0, true), 1);
    }

    private static void streetAndYear() {
        due.promise(11, "street");
        StreetKeys x = Due.street("h7h8p1:3", "m0>0x1");
        due.is("count(4)", x.count(4), 2);
        Due.write(x, 2, "h9 p0:1 p0:2 p-:12 h4 h5");
        due.is("street(2)", x.street(2), 3);
        due.is("houses", x.count(0), 3);
        due.is("persons", x.count(1), 3);
        due.is("keys", x.count(2), 0);
        due.is("events", x.count(4), 0);
        asks(x, "house(0, 0)", x.house(0, 0), 9);
        asks(x, "house(1, 1)", x.house(1, 1), 0);
        Due.write(x, 3, "h9h");
        long before = x.digest();
        due.is("street(3)", x.street(3), -4);
        due.is("digest stays", x.digest(), before);
        Due.write(x, 3, "h9h7p7:7");
        due.is("street(3)", x.street(3), -4);
        due.is("houses stay", x.count(0), 3);
        due.is("street(4)", x.street(4), -1);
        due.is("street(-1)", x.street(-1), -1);
        StreetKeys y = new StreetKeys();
        finds(y, "street(0)", y.street(0), 1);
        due.promise(12, "year");
        Due.write(x, 3, "m2>1 q0/1");
        due.is("year(3)", x.year(3), 2);
        due.is("year(3) again", x.year(3), 2);
        due.is("events", x.count(4), 4);
        due.is("keys", x.count(2), 2);
        asks(x, "trust(0, 1)", x.trust(0, 1), -2);
        Due.write(x, 3, "m2>1 c0>1 c3>0 c9>0");
        due.is("year(3)", x.year(3), -4);
        due.is("events", x.count(4), 4);
        due.is("keys", x.count(2), 2);
        due.is("year(4)", x.year(4), -1);
        due.is("year(-1)", x.year(-1), -1);
        finds(y, "year(0)", y.year(0), 1);
        y.text(0, 3);
        due.is("year(0)", y.year(0), 0);
    }

    private static void eventFull() {
        due.promise(13, "event, full");
        StreetKeys x = Due.street("h1p0:1p0:2");
        for (int i = 0; i < 24; i++) {
            due.is("event " + i, x.event(i % 2 + 1, 0, 0, true), i);
        }
        due.is("a key more", x.event(1, 0, 0, true), -2);
        due.is("a copy more", x.event(2, 0, 0, true), -2);
        due.is("a copy of none", x.event(2, 24, 0, true), -1);
        due.is("made for none", x.event(1, 1, 0, true), -1);
        for (int i = 24; i < 40; i++) {
            due.is("event " + i, x.event(6, 0, -7, true), i);
        }
        due.is("an event more", x.event(6, 0, 0, true), -2);
        due.is("an event of none", x.event(6, 1, 0, true), -1);
        due.is("trust more", x.event(7, 0, 1, true), -2);
        due.is("trust of himself", x.event(7, 0, 0, true), -1);
        due.is("no finding", x.finding(), 0);
        due.is("count(4)", x.count(4), 40);
    }

    private static void eventsOneByOne() {
        due.promise(13, "event");
        StreetKeys x = Due.street("h1h2p0:1p1:2p-:3");
        due.is("made", x.event(1, 1, 2, false), 0);
        due.is("copy", x.event(2, 0, 0, false), 1);
        due.is("given", x.event(3, 1, 1, false), 2);
        due.is("laid", x.event(4, 0, 1, false), 3);
        due.is("inside", x.event(5, 1, 0, false), 4);
        due.is("changed", x.event(6, 1, 99, false), 5);
        due.is("trust", x.event(7, 2, 0, true), 6);
        due.is("kind 0", x.event(0, 0, 0, true), -1);
        due.is("kind 8", x.event(8, 0, 0, true), -1);
        due.is("kind -1", x.event(-1, 0, 0, true), -1);
        int[][] bad = {{1, 2, 0}, {1, -1, 0}, {1, 0, 3}, {1, 0, -1}, {2, 2, 0}, {2, -1, 0}, {2, 0, 3},
            {3, 2, 0}, {3, 0, 3}, {3, 0, -1}, {4, 2, 0}, {4, 0, 2}, {4, 0, -1}, {5, -1, 0}, {5, 0, 2},
            {6, 2, 0}, {6, -1, 0}, {7, 3, 0}, {7, 0, 3}, {7, 1, 1}, {7, -1, 0}, {7, 0, -1}};
        for (int[] b : bad) {
            String call = "event(" + b[0] + ", " + b[1] + ", " + b[2] + ")";
            due.is(call, x.event(b[0], b[1], b[2], true), -1);
        }
        due.is("count(4)", x.count(4), 7);
        asks(x, "key(0, 2)", x.key(0, 2), 1);
        asks(x, "key(1, 2)", x.key(1, 2), 2);
        asks(x, "key(1, 3)", x.key(1, 3), 0);
        asks(x, "trust(2, 0)", x.trust(2, 0), 1);
    }

    private static void backGoes() {
        due.promise(14, "back");
        StreetKeys x = Due.street("h1h2p0:1p1:2p-:3", "m0>0 m1>1 x0 g0>2 q0/1 i1@0");
        StreetKeys y = Due.street("h1h2p0:1p1:2p-:3");
        Due.write(y, 1, "m0>0 m1>1 x0 g0>2 q0/1 i1@0");
        due.is("back(7)", x.back(7), -1);
        due.is("back(-1)", x.back(-1), -1);
        due.is("back(6)", x.back(6), 0);
        due.is("count(4)", x.count(4), 6);
        due.is("back(2)", x.back(2), 4);
        y.event(1, 0, 0, true);
        y.event(1, 1, 1, true);
        due.is("as if never", x.digest(), y.digest());
        asks(x, "key(0, 1)", x.key(0, 1), 1);
        asks(x, "key(0, 4)", x.key(0, 4), 1);
        asks(x, "trust(0, 1)", x.trust(0, 1), 0);
        due.is("back(0)", x.back(0), 2);
        due.is("keys", x.count(2), 0);
        due.is("year again", x.year(1), 6);
        due.is("keys", x.count(2), 2);
    }

    private static void toldAndMark() {
        due.promise(15, "told");
        StreetKeys x = Due.street("h1h2p0:1p1:2p-:3", "m1>2 x0 c0>1 g1>2 l0@1 i1@0 q0/2 f2/1");
        int[][] told = {{1, 1, 2, 0}, {6, 0, 0, 0}, {2, 0, 1, 0}, {3, 1, 2, 0}, {4, 0, 1, 0}, {5, 1, 0, 0},
            {7, 0, 2, -1}, {7, 2, 1, 1}};
        for (int e = 0; e < told.length; e++) {
            for (int what = 0; what < 4; what++) {
                asks(x, "told(" + e + ", " + what + ")", x.told(e, what), told[e][what]);
            }
        }
        x.event(6, 1, 77, true);
        asks(x, "told(8, 2)", x.told(8, 2), 0);
        asks(x, "told(8, 3)", x.told(8, 3), 0);
        due.is("told(9, 0)", x.told(9, 0), -1);
        due.is("told(-1, 0)", x.told(-1, 0), -1);
        due.is("told(0, 4)", x.told(0, 4), -1);
        due.is("told(0, -1)", x.told(0, -1), -1);
        due.promise(16, "mark");
        int u = -3;
        int[][] marks = {{0, u, u, u, u, u, u}, {u, u, u, u, u, 0, u}, {1, 0, u, u, u, u, u},
            {u, u, 2, u, u, u, u}, {u, u, u, 1, u, u, u}, {u, u, u, 0, 1, u, u},
            {u, u, u, u, u, u, 0}, {u, u, u, u, u, u, 2}, {u, u, u, u, u, 1, u}};
        for (int e = 0; e < marks.length; e++) {
            for (int kind = 1; kind < 8; kind++) {
                due.is("mark(" + e + ", " + kind + ")", x.mark(e, kind), marks[e][kind - 1]);
            }
        }
        due.is("finding", x.finding(), 3);
        due.is("findings(3)", x.findings(3), 52);
        due.is("mark(0, 0)", x.mark(0, 0), -1);
        due.is("mark(0, 8)", x.mark(0, 8), -1);
        due.is("mark(9, 1)", x.mark(9, 1), -1);
        due.is("mark(-1, 1)", x.mark(-1, 1), -1);
    }

    private static void houseAndPerson() {
        due.promise(17, "house");
        StreetKeys x = Due.street("h99h0h5p0:12p2:0p-:3p0:7", "m0>0x0m0>1c0>2c1>1m2>3x2x2x0m0>3l5@2m0>1");
        int[][] houses = {{99, 2, 96, 9}, {0, 0, 0, 0}, {5, 2, 0, 2}};
        for (int h = 0; h < 3; h++) {
            for (int what = 0; what < 4; what++) {
                asks(x, "house(" + h + ", " + what + ")", x.house(h, what), houses[h][what]);
            }
        }
        due.is("house(3, 0)", x.house(3, 0), -1);
        due.is("house(-1, 0)", x.house(-1, 0), -1);
        due.is("house(0, 4)", x.house(0, 4), -1);
        due.is("house(0, -1)", x.house(0, -1), -1);
        due.promise(18, "person");
        int[][] persons = {{0, 12, 1}, {2, 0, 2 + 8 + 64}, {-9, 3, 4}, {0, 7, 16}};
        for (int p = 0; p < 4; p++) {
            for (int what = 0; what < 3; what++) {
                asks(x, "person(" + p + ", " + what + ")", x.person(p, what), persons[p][what]);
            }
        }
        due.is("person(4, 0)", x.person(4, 0), -1);
        due.is("person(-1, 0)", x.person(-1, 0), -1);
        due.is("person(0, 3)", x.person(0, 3), -1);
        due.is("person(0, -1)", x.person(0, -1), -1);
    }

    private static void keyAndTrust() {
        due.promise(19, "key");
        StreetKeys x = Due.street("h1h2p0:1p1:2p-:3", "m1>0 x1 c0>1 m1>2 g2>0 l2@0 g0>2 i0@1 g2>1");
        int[][] keys = {{1, 0, 2, 1, 5}, {1, 0, 0, 1, 2}, {1, 1, 0, 1, 7}};
        for (int k = 0; k < 3; k++) {
            for (int what = 0; what < 5; what++) {
                asks(x, "key(" + k + ", " + what + ")", x.key(k, what), keys[k][what]);
            }
        }
        x.event(4, 2, 0, true);
        asks(x, "key(2, 2)", x.key(2, 2), 1);
        asks(x, "key(2, 3)", x.key(2, 3), 0);
        asks(x, "key(2, 4)", x.key(2, 4), 7);
        due.is("key(3, 0)", x.key(3, 0), -1);
        due.is("key(-1, 0)", x.key(-1, 0), -1);
        due.is("key(0, 5)", x.key(0, 5), -1);
        due.is("key(0, -1)", x.key(0, -1), -1);
        due.promise(20, "trust");
        for (int i = 1; i < 6; i++) {
            x.event(7, 0, 2, true);
            asks(x, "trust(0, 2)", x.trust(0, 2), Math.min(3, i));
            x.event(7, 2, 1, false);
            asks(x, "trust(2, 1)", x.trust(2, 1), -Math.min(3, i));
        }
        x.event(7, 0, 2, false);
        asks(x, "trust(0, 2)", x.trust(0, 2), 2);
        asks(x, "trust(2, 0)", x.trust(2, 0), 0);
        x.event(7, 2, 1, true);
        asks(x, "trust(2, 1)", x.trust(2, 1), -2);
        due.is("trust(1, 1)", x.trust(1, 1), -1);
        due.is("trust(0, 3)", x.trust(0, 3), -1);
        due.is("trust(3, 0)", x.trust(3, 0), -1);
        due.is("trust(-1, 0)", x.trust(-1, 0), -1);
        due.is("trust(0, -1)", x.trust(0, -1), -1);
    }

    private static void aloneComes() {
        due.promise(21, "alone");
        // 0 holds a key of 3, in 3 lies one of 1, in 1 one of 0; under a pot lies one of 4.
        String years = "m3>0 m1>0 m0>0 i1@3 i2@1 m4>1 l3@2 m2>1";
        StreetKeys x = Due.street("h1h1h1h1h1h1p2:1p5:1p-:1", years);
        due.is("alone(0)", x.alone(0), 1 + 2 + 8 + 16);
        due.is("alone(1)", x.alone(1), 4 + 16);
        due.is("alone(2)", x.alone(2), 16);
        x.event(6, 1, 0, true);
        due.is("alone(0), 1 changed", x.alone(0), 8 + 16);
        StreetKeys y = Due.street("h1h1h1h1h1h1p-:1", "m0>0 m5>0 m4>0 m3>0 i1@0 i2@5 i3@4");
        due.is("from 0 down the street", y.alone(0), 1 + 32 + 16 + 8);
        y.event(4, 0, 3, true);
        due.is("from 0 by its pot", y.alone(0), 1 + 32 + 16 + 8);
        y = Due.street("h1h1h1h1h1h1p-:1", "m5>0 m0>0 m1>0 m2>0 i1@5 i2@0 i3@1");
        due.is("from 5 up the street", y.alone(0), 32 + 1 + 2 + 4);
        due.is("alone(3)", x.alone(3), -1);
        due.is("alone(-1)", x.alone(-1), -1);
    }

    private static void wakeAndOdds() {
        due.promise(22, "wake");
        // 1 and 2 hold keys of 0; 3 holds one of 2, in which lies one of 0; 4 lives elsewhere with one of 0.
        String street = "h1h1h1h1p0:5p1:3p1:4p3:6p-:12";
        StreetKeys x = Due.street(street, "m0>1 m0>2 m2>3 m0>3 i3@2 m0>4");
        asks(x, "wake(0, 0)", x.wake(0, 0, false), 1, 2);
        asks(x, "wake(0, 2)", x.wake(0, 2, false), 1, 8);
        asks(x, "wake(0, 3)", x.wake(0, 3, true), 1, 8);
        asks(x, "wake(1, 0)", x.wake(1, 0, false), 1, 1);
        asks(x, "wake(1, 0, own)", x.wake(1, 0, true), 0, 0);
        asks(x, "wake(4, 0)", x.wake(4, 0, false), 1, 1);
        due.promise(23, "odds");
        // 1 - 9/12 8/12 6/12
        oddsAre(x, x.odds(0, 0, false), 3, 3, 4);
        // 0 himself can be woken by 1: 1 - 7/12 8/12 6/12
        oddsAre(x, x.odds(1, 0, false), 3, 29, 36);
        oddsAre(x, x.odds(1, 0, true), 3, 1, 1);
        oddsAre(x, x.odds(0, 2, false), 3, 1, 2);
        oddsAre(x, x.odds(4, 1, false), 4, 1, 2);
        x.event(7, 3, 0, false);
        oddsAre(x, x.odds(0, 0, false), 2, 1, 2);
        oddsAre(x, x.odds(0, 2, false), 2, 0, 1);
        due.promise(22, "wake");
        x.event(7, 1, 0, false);
        asks(x, "wake(0, 0)", x.wake(0, 0, false), 1, 4);
        due.is("wake(0, 2)", x.wake(0, 2, false), -9);
        due.is("asked stays", x.asked(), 4);
        x.event(7, 2, 0, false);
        due.is("wake(0, 0)", x.wake(0, 0, false), -9);
        x.event(7, 2, 0, true);
        asks(x, "wake(0, 0) trusted again", x.wake(0, 0, false), 1, 4);
        x.event(4, 4, 3, true);
        asks(x, "wake(0, 0) by a pot", x.wake(0, 0, false), 0, 0);
        due.promise(23, "odds");
        oddsAre(x, x.odds(0, 0, false), 1, 1, 1);
        due.is("odds(5, 0)", x.odds(5, 0, true), -1);
        due.is("odds(-1, 0)", x.odds(-1, 0, true), -1);
        due.is("odds(0, 4)", x.odds(0, 4, true), -1);
        due.is("odds(0, -1)", x.odds(0, -1, true), -1);
        due.promise(22, "wake");
        due.is("wake(5, 0)", x.wake(5, 0, true), -1);
        due.is("wake(-1, 0)", x.wake(-1, 0, true), -1);
        due.is("wake(0, 4)", x.wake(0, 4, true), -1);
        due.is("wake(0, -1)", x.wake(0, -1, true), -1);
        StreetKeys y = Due.street("h1" + "p0:1".repeat(12));
        due.promise(23, "odds");
        due.is("odds of eleven", y.odds(0, 0, false), 11);
        due.is("upper", y.upper(), 743008370688L - 285311670611L);
        due.is("lower", y.lower(), 743008370688L);
    }

    private static void oddsAre(StreetKeys x, int got, int want, long upper, long lower) {
        due.is("odds", got, want);
        due.is("odds upper", x.upper(), upper);
        due.is("odds lower", x.lower(), lower);
    }

    private static void soonestWay() {
        due.promise(24, "soonest");
        // The key of 2 lies under pot 0, that of 5 in 2, that of 1 with 1 in 4.
        StreetKeys x = Due.street("h1h1h1h1h1h1p3:0p4:0p-:0", "m2>0 l0@0 m5>0 i1@2 m1>1");
        due.is("soonest(2, 2)", x.soonest(2, 2, false), 1 + 2 + 1);
        due.is("soonest(2, 5)", x.soonest(2, 5, true), 1 + 2 + 1 + 3 + 1);
        due.is("soonest(2, 3)", x.soonest(2, 3, false), 3 + 1 + 1);
        due.is("soonest(0, 3)", x.soonest(0, 3, false), -9);
        due.is("soonest(0, 4)", x.soonest(0, 4, false), 1 + 1 + 1);
        due.is("soonest(0, 1)", x.soonest(0, 1, false), 1 + 1 + 3 + 1);
        due.is("soonest(1, 1)", x.soonest(1, 1, false), -9);
        due.is("soonest(1, 1, own)", x.soonest(1, 1, true), 3 + 1);
        due.is("soonest(2, 0)", x.soonest(2, 0, true), -9);
        x.event(7, 1, 0, false);
        due.is("soonest(0, 4)", x.soonest(0, 4, false), -9);
        x.event(6, 2, 0, false);
        due.is("soonest(2, 2)", x.soonest(2, 2, false), -9);
        due.is("soonest(3, 0)", x.soonest(3, 0, true), -1);
        due.is("soonest(-1, 0)", x.soonest(-1, 0, true), -1);
        due.is("soonest(0, 6)", x.soonest(0, 6, true), -1);
        due.is("soonest(0, -1)", x.soonest(0, -1, true), -1);
    }

    private static void roundWay() {
        due.promise(25, "round");
        StreetKeys x = Due.street("h1h1h1h1h1h1p3:0p4:0p-:0", "m2>0 l0@0 m5>0 i1@2 m1>1");
        due.is("round(2, 0)", x.round(2, 0, false), 0);
        due.is("round(2, 4)", x.round(2, 4, false), 1 + 2 + 1 + 2);
        due.is("round(2, 36)", x.round(2, 36, false), 1 + 2 + 1 + 3 + 1 + 5);
        // look at 0, in 2, look and in 3, look and in 4, in 5, home by 1
        due.is("round(2, 62)", x.round(2, 62, false), 1 + 10 + 1 + 2 + 2 + 1 + 1);
        due.is("round(2, 63)", x.round(2, 63, false), -9);
        due.is("round(0, 2)", x.round(0, 2, false), 1 + 1 + 3 + 1 + 2);
        due.is("round(1, 2)", x.round(1, 2, true), 3 + 1 + 3);
        due.is("round(0, 64)", x.round(0, 64, true), -1);
        due.is("round(0, -1)", x.round(0, -1, true), -1);
        due.is("round(3, 0)", x.round(3, 0, true), -1);
        due.is("round(-1, 0)", x.round(-1, 0, true), -1);
        StreetKeys bare = Due.street("p-:1");
        due.is("round with no house", bare.round(0, 0, true), 0);
        due.is("round with no house", bare.round(0, 1, true), -1);
    }

    private static void stuckHouses() {
        due.promise(26, "stuck");
        StreetKeys x = Due.street("h1h1h1h1h1p0:1", "m0>0 m1>0 m2>0 m3>0 i0@1 i1@0 i3@2");
        // 0 and 1 lock one another in, 2 is held and opens 3, 4 has no key.
        asks(x, "stuck", x.stuck(), 19, 16);
        x.event(4, 0, 4, true);
        asks(x, "stuck", x.stuck(), 16, 16);
        x.event(6, 2, 0, true);
        asks(x, "stuck", x.stuck(), 4 + 8 + 16, 4 + 16);
        StreetKeys bare = new StreetKeys();
        asks(bare, "stuck", bare.stuck(), 0, 0);
    }

    private static void safePlans() {
        due.promise(27, "safe");
        StreetKeys x = Due.street("h1h1h1h1p0:1p1:1p2:1p-:1");
        due.is("safe(1, 2, 0)", x.safe(1, 2, 0), 6);
        rowIs(x, 0, 0, 1, 0, 2, 1, 0, 1, 2, 2, 0, 2, 1);
        due.is("safe(1, 1, 0)", x.safe(1, 1, 0), -9);
        due.is("safe(2, 9, 0)", x.safe(2, 9, 0), -9);
        rowIs(x, 0, 0, 1, 0, 2, 1, 0, 1, 2, 2, 0, 2, 1);
        // 1 has a key of 0, 2 a dead one of 0; one who lives elsewhere has one of 1.
        x.event(1, 0, 2, true);
        x.event(6, 0, 0, true);
        x.event(1, 0, 1, true);
        x.event(1, 1, 3, true);
        due.is("safe(1, 2, 5)", x.safe(1, 2, 5), 5);
        rowIs(x, 5, 0, 2, 1, 0, 1, 2, 2, 0, 2, 1);
        x.event(7, 3, 0, false);
        due.is("distrust of one elsewhere", x.safe(1, 2, 5), 5);
        x.event(7, 1, 0, false);
        due.is("distrust", x.safe(1, 2, 5), -9);
        x.event(7, 1, 0, true);
        x.event(7, 0, 1, false);
        due.is("distrust the other way", x.safe(1, 2, 5), -9);
        due.is("safe(0, 1, 0)", x.safe(0, 1, 0), -1);
        due.is("safe(3, 1, 0)", x.safe(3, 1, 0), -1);
        due.is("safe(1, -1, 0)", x.safe(1, -1, 0), -1);
        due.is("safe(1, 10, 0)", x.safe(1, 10, 0), -1);
        due.is("safe(1, 1, 6)", x.safe(1, 1, 6), -1);
        due.is("safe(1, 1, -1)", x.safe(1, 1, -1), -1);
        StreetKeys bare = Due.street("h1h2p-:1");
        due.is("nobody lives there", bare.safe(2, 0, 3), 0);
        rowIs(bare, 3);
    }

    private static void safeOrder() {
        due.promise(27, "safe, order");
        StreetKeys x = Due.street("h1h1h1h1h1h1p0:1p1:1p2:1p3:1p4:1p5:1");
        due.is("safe(1, 2, 0)", x.safe(1, 2, 0), 12);
        // By hand: each house gets two keys at most, the first sets that still leave a plan.
        rowIs(x, 0, 0, 1, 0, 2, 1, 0, 1, 2, 2, 0, 2, 1, 3, 4, 3, 5, 4, 3, 4, 5, 5, 3, 5, 4);
        due.is("safe(1, 9, 0)", x.safe(1, 9, 0), 12);
        rowIs(x, 0, 0, 1, 0, 2, 1, 0, 1, 2, 2, 0, 2, 1, 3, 0, 3, 1, 4, 0, 4, 1, 5, 0, 5, 1);
        due.is("safe(2, 3, 0)", x.safe(2, 3, 0), 18);
        // All room is needed: 4 and 5 have to take of each house behind 1, so of 2 they and 0 do.
        rowIs(x, 0, 0, 1, 0, 2, 0, 3, 1, 0, 1, 2, 1, 3, 2, 0, 2, 4, 2, 5, 3, 0, 3, 4, 3, 5,
            4, 1, 4, 2, 4, 5, 5, 1, 5, 3, 5, 4);
        due.is("safe(2, 2, 0)", x.safe(2, 2, 0), -9);
    }

    private static void suspectsAndCopies() {
        due.promise(28, "suspects");
        // k0 of 0 passed 1 to 2; k1 of 1 passed 2 to 3; k2 of 0 lies in 1.
        StreetKeys x = Due.street("h1h1h1p0:1p2:1p2:1p-:1", "m0>1 g0>2 m1>2 g1>3 m0>0 i2@1");
        asks(x, "suspects(0)", x.suspects(0), 4 + 8, 2 + 4 + 8);
        asks(x, "suspects(1)", x.suspects(1), 8, 4 + 8);
        asks(x, "suspects(2)", x.suspects(2), 0, 0);
        due.is("suspects(3)", x.suspects(3), -1);
        due.is("suspects(-1)", x.suspects(-1), -1);
        due.promise(29, "copies");
        asks(x, "copies(1, 0)", x.copies(1, 0), 1, 1);
        asks(x, "copies(2, 0)", x.copies(2, 0), 0, 0);
        asks(x, "copies(2, 1)", x.copies(2, 1), 1, 2);
        due.is("copies(1, 1)", x.copies(1, 1), -9);
        due.is("asked stays", x.asked(), 2);
        due.is("copies(0, 0)", x.copies(0, 0), -1);
        due.is("copies(1, 2)", x.copies(1, 2), -1);
        due.is("copies(4, 0)", x.copies(4, 0), -1);
        due.is("copies(-1, 0)", x.copies(-1, 0), -1);
        due.is("copies(0, 3)", x.copies(0, 3), -1);
        due.is("copies(0, -1)", x.copies(0, -1), -1);
        x.event(3, 0, 0, true);
        asks(x, "copies(2, 0), two ways", x.copies(2, 0), 1, 1);
        x.event(6, 0, 0, true);
        due.is("copies(2, 0), changed", x.copies(2, 0), -9);
        due.promise(28, "suspects");
        asks(x, "suspects(0), changed", x.suspects(0), 0, 0);
        StreetKeys y = Due.street("h1h1h1p-:1p-:1", "m2>0 g0>1 m1>0 g1>1 m0>1 i2@2 m0>1 i3@1");
        due.promise(29, "copies");
        asks(y, "copies(0, 0), first house", y.copies(0, 0), 1, 2);
    }

    private static void deadKeys() {
        due.promise(30, "dead");
        StreetKeys x = Due.street("h1h1p0:1p1:1p-:1", "m0>0m0>1m1>2c0>2x0m0>0c1>1l1@1i3@0c0>2");
        asks(x, "dead(0)", x.dead(0), 5, 1 + 2 + 4);
        asks(x, "dead(1)", x.dead(1), 0, 0);
        x.event(3, 1, 2, true);
        x.event(4, 0, 0, true);
        asks(x, "dead(0)", x.dead(0), 5, 2 + 4);
        due.is("dead(2)", x.dead(2), -1);
        due.is("dead(-1)", x.dead(-1), -1);
    }

    private static void lostRing() {
        due.promise(31, "lost");
        // In 4 lies a key of 5, in 5 one of 4 and one of 0: risks 1 1 1 1 3 3.
        String years = "m0>0 m1>0 m2>0 m3>0 m4>0 m5>0 m5>1 m4>1 m0>1 i6@4 i7@5 i8@5 l3@0";
        StreetKeys x = Due.street("h7h3h7h1h20h20p-:1p-:1", years);
        asks(x, "lost(0, 2)", x.lost(0, 2), 5, 7 + 3 + 7 + 20 + 20);
        rowIs(x, 2, 4, 5, 1, 0, 2);
        asks(x, "lost(1, 2)", x.lost(1, 2), 0, 0);
        rowIs(x, 2);
        x.event(6, 4, 0, true);
        x.event(2, 1, 0, true);
        asks(x, "lost(0, 5)", x.lost(0, 5), 4, 7 + 3 + 7 + 20);
        rowIs(x, 5, 5, 1, 0, 2);
        due.is("lost(2, 0)", x.lost(2, 0), -1);
        due.is("lost(-1, 0)", x.lost(-1, 0), -1);
        due.is("lost(0, 6)", x.lost(0, 6), -1);
        due.is("lost(0, -1)", x.lost(0, -1), -1);
        due.is("count(6)", x.count(6), 2);
    }

    private static void whatIsTold() {
        due.promise(32, "asked");
        StreetKeys x = Due.street("h7h3p0:4p1:6", "m0>1");
        asks(x, "house(0, 0)", x.house(0, 0), 7);
        x.house(9, 0);
        x.safe(1, 1, 0);
        x.soonest(0, 0, true);
        x.alone(0);
        x.mark(0, 1);
        x.odds(0, 0, true);
        due.is("asked stays", x.asked(), 7);
        due.promise(33, "upper");
        due.is("upper", x.upper(), 1);
        due.promise(34, "lower");
        due.is("lower", x.lower(), 2);
        x.odds(7, 0, true);
        due.is("lower stays", x.lower(), 2);
        due.promise(35, "count");
        x.event(6, 0, 0, true);
        x.event(2, 0, 0, true);
        x.event(1, 0, 0, true);
        x.row(3, 0);
        int[] counts = {2, 2, 3, 1, 4, 3, 1, 2};
        for (int what = 0; what < 8; what++) {
            due.is("count(" + what + ")", x.count(what), counts[what]);
        }
        due.is("count(8)", x.count(8), -1);
        due.is("count(-1)", x.count(-1), -1);
        due.promise(36, "finding");
        due.is("finding", x.finding(), 0);
        finds(x, "tear(1)", x.tear(1), 1);
        finds(x, "mean(3)", x.mean(3), 4);
        x.tear(9);
        x.row(0, 1);
        due.is("finding stays", x.finding(), 4);
        finds(x, "at(3, 0)", x.at(3, 0), 2);
        finds(x, "mark(0, 3)", x.mark(0, 3), 3);
        finds(x, "text(0, -4)", x.text(0, -4), 5);
        finds(x, "text(0, -4)", x.text(0, -4), 5);
        due.promise(37, "findings");
        int[] often = {-1, 1, 1, 1, 1, 2, -1};
        for (int f = 0; f < 7; f++) {
            due.is("findings(" + f + ")", x.findings(f), often[f]);
        }
    }

    private static void digestOfAll() {
        due.promise(38, "digest");
        StreetKeys x = new StreetKeys();
        long empty = 17;
        for (int i = 0; i < 8; i++) {
            empty = 31 * empty;
        }
        for (int i = 0; i < 10; i++) {
            empty = 31 * empty - 1;
        }
        due.is("digest of none", x.digest(), empty);
        x = Due.street("h7p0:4p-:6", "m0>1x0q0/1");
        x.row(1, 2);
        x.lay(1, 1, -5);
        x.tear(0);
        x.put(1, 0, 200);
        x.house(0, 0);
        long[] parts = {1, 2, 1, 0, 3, 1, 1, 2, 7, 1, 0, 1, 0, 4, 0, -1, -9, 6, 1, 0, 0, 0, 0, 1, 2,
            1, 0, 1, 0, 6, 0, 0, 0, 7, 0, 1, -1, -1, 2, 0, -5, -1, -1, -1, -1,
            10, 'h', '7', 'p', '0', ':', '4', 'p', '-', ':', '6', 10, -56, '0', '>', '1', 'x', '0', 'q', '0', '/', '1',
            -1, -1};
        long want = 17;
        for (long part : parts) {
            want = 31 * want + part;
        }
        due.is("digest", x.digest(), want);
        due.is("digest again", x.digest(), want);
        due.is("asked stays", x.asked(), 7);
    }
}
