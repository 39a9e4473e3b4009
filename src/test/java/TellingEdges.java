import java.math.BigInteger;
import java.util.ArrayList;
import java.util.List;

/** Promises 32 to 38: what is told. */
final class TellingEdges {
    private static final int BAD = Trial.BAD, NONE = Trial.NONE, STATE = Trial.STATE, FULL = Trial.FULL;
    private static final int NOTHING = Trial.NOTHING, BEYOND = Trial.BEYOND, UNLIKE = Trial.UNLIKE;
    private static final int NOUGHT = Trial.NOUGHT, SIZE = Trial.SIZE;
    private static final String STREET = "h20h5p0:6p1:7p-:3";
    private static final String YEAR = "m0>0m1>1c0>1l2@1q0/1x1";

    private TellingEdges() {
    }

    private static Trial asked20() {
        return Trial.of(STREET, YEAR).row(1, 4, 8).tells("house(0, 0)", 20);
    }

    // ---- 32 asked

    static void promise32_0Before() {
        new Trial().says("asked()", 0);
        new Trial().write(0, "h5p0:1").says("street(0)", 1).says("event(1, 0, 0, true)", 0).says("mark(0, 1)", 0)
            .says("alone(0)", 1).says("odds(0, 0, true)", 0).says("asked()", 0);
    }

    static void promise32_eachCallThatTells() {
        asked20().tells("lay(1, 0, 9)", 4).tells("at(1, 1)", 8).tells("mean(1)", 8);
        asked20().tells("told(4, 3)", -1).tells("house(1, 0)", 5).tells("person(2, 0)", NONE).tells("key(2, 2)", 1);
        asked20().tells("trust(0, 1)", -1).tells("wake(0, 1, false)", 1, 2).tells("stuck()", 2, 2);
        asked20().tells("suspects(0)", 2 + 4, 2 + 4).tells("copies(2, 0)", 0, 0).tells("dead(1)", 1, 2)
            .tells("lost(0, 2)", 1, 20);
    }

    static void promise32_theLatest() {
        asked20().tells("house(1, 0)", 5).tells("at(1, 0)", 4).says("asked()", 4).says("asked()", 4);
    }

    static void promise32_whatIsRefusedTellsNothing() {
        Trial t = asked20().says("lay(6, 0, 1)", BAD).says("lay(0, 0, 1)", -3).says("at(1, 2)", -3).says("mean(0)", -3);
        t.says("row(2, 0)", 0).says("mean(2)", -3).says("told(6, 0)", BAD).says("house(2, 0)", BAD)
            .says("person(3, 0)", BAD);
        t.says("key(3, 0)", BAD).says("trust(0, 0)", BAD).says("wake(3, 0, true)", BAD).says("suspects(2)", BAD);
        t.says("copies(0, 0)", BAD).says("dead(2)", BAD).says("lost(3, 0)", BAD).says("asked()", 20);
    }

    static void promise32_noneTellsNothing() {
        asked20().says("wake(1, 1, false)", NONE).says("copies(0, 1)", NONE).says("asked()", 20);
    }

    static void promise32_otherCallsTellNothing() {
        Trial t = asked20().says("row(0, 3)", 3).says("copy(1, 0, 0, 0, 2)", 1).says("tear(0)", 1)
            .says("text(3, 2)", 2);
        t.says("put(3, 0, 120)", 1032).says("put(3, 1, 48)", 1032).says("fault(3, true)", NONE);
        t.says("year(3)", 1).says("event(6, 0, 0, true)", 7).says("back(6)", 2).says("mark(0, 1)", 0)
            .says("alone(0)", 1);
        t.says("odds(0, 1, false)", 1).says("soonest(0, 0, true)", 1).says("round(0, 1, true)", 1)
            .says("safe(1, 9, 2)", NONE);
        t.says("upper()", 7).says("lower()", 12).says("count(0)", 2).says("finding()", 0).says("findings(1)", 0);
        t.call("digest()");
        t.says("asked()", 20).says("street(0)", 2).says("safe(1, 9, 2)", NONE).says("asked()", 20);
    }

    // ---- 33 upper, 34 lower

    static void promise33_0Before() {
        new Trial().says("upper()", 0);
        Trial.of(STREET, YEAR).tells("wake(0, 1, false)", 1, 2).says("upper()", 0);
    }

    static void promise34_1Before() {
        new Trial().says("lower()", 1);
        Trial.of(STREET, YEAR).tells("wake(0, 1, false)", 1, 2).says("lower()", 1);
    }

    static void promise33_toldLast() {
        Trial t = Trial.of(STREET, YEAR).says("odds(0, 1, false)", 1).says("upper()", 7).says("upper()", 7);
        t.says("odds(0, 0, true)", 1).says("upper()", 1).says("odds(1, 1, false)", 0).says("upper()", 0);
    }

    static void promise34_toldLast() {
        Trial t = Trial.of(STREET, YEAR).says("odds(0, 1, false)", 1).says("lower()", 12).says("lower()", 12);
        t.says("odds(0, 0, true)", 1).says("lower()", 1).says("odds(0, 1, false)", 1).says("lower()", 12);
        t.says("odds(1, 1, false)", 0).says("lower()", 1);
    }

    static void promise33_refusedLeavesIt() {
        Trial.of(STREET, YEAR).odds("odds(0, 1, false)", 1, 7, 12).refuses("odds(3, 0, true)", BAD)
            .refuses("odds(0, 2, true)", BAD)
            .says("upper()", 7);
    }

    static void promise34_refusedLeavesIt() {
        Trial.of(STREET, YEAR).odds("odds(0, 1, false)", 1, 7, 12).refuses("odds(-1, 0, true)", BAD)
            .refuses("odds(0, -1, true)", BAD)
            .says("lower()", 12);
    }

    static void promise33_aNewStreetLeavesIt() {
        Trial.of(STREET, YEAR).odds("odds(0, 1, false)", 1, 7, 12).says("street(0)", 2).says("upper()", 7)
            .says("lower()", 12);
    }

    // ---- 35 count

    static void promise35_ofEach() {
        Trial t = Trial.of(STREET, YEAR);
        int[] due = {2, 3, 3, 2, 6, 3, 0, 2};
        for (int what = 0; what < 8; what++) {
            t.says("count(" + what + ")", due[what]);
        }
    }

    static void promise35_atMost() {
        Trial t = Trial.of("h1".repeat(6) + "p0:1".repeat(12), "m0>0".repeat(24), "q0/1".repeat(16));
        for (int r = 0; r < 6; r++) {
            t.says("row(" + r + ", 0)", 0);
        }
        t.says("text(2, 0)", 0).says("text(3, 0)", 0);
        int[] due = {6, 12, 24, 24, 40, 24, 6, 4};
        for (int what = 0; what < 8; what++) {
            t.says("count(" + what + ")", due[what]);
        }
    }

    static void promise35_liveKeysAndCopies() {
        Trial t = Trial.of(STREET, "m0>0c0>0c1>0m1>0").says("count(2)", 4).says("count(3)", 4).says("count(5)", 4);
        t.years("x0").says("count(2)", 4).says("count(3)", 1).says("count(5)", 4).years("c0>0").says("count(3)", 1);
        t.says("count(5)", 5).says("back(1)", 5).says("count(2)", 1).says("count(5)", 1).says("count(3)", 1);
    }

    static void promise35_rowsAndTextsThatAreThere() {
        Trial t = new Trial().says("row(0, 0)", 0).says("row(5, 1)", 1).says("row(5, 2)", 2).says("count(6)", 2);
        t.says("tear(5)", 1).says("count(6)", 1).says("text(3, 0)", 0).says("count(7)", 1).says("text(3, 5)", 5)
            .says("count(7)", 1);
    }

    static void promise35_noSuchWhat() {
        new Trial().takes("count(#)", 0, 7);
        Trial.of(STREET, YEAR).takes("count(#)", 0, 7);
    }

    // ---- 36 finding

    static void promise36_0BeforeAny() {
        new Trial().says("finding()", 0).says("row(6, 0)", BAD).says("finding()", 0);
    }

    static void promise36_theLatest() {
        Trial t = new Trial().says("row(0, 0)", 0).says("tear(1)", -3).says("finding()", 1).says("at(0, 0)", -3)
            .says("finding()", 2);
        t.says("mean(0)", -3).says("finding()", 4).says("row(0, -1)", -3).says("finding()", 5).says("tear(1)", -3)
            .says("finding()", 1);
    }

    static void promise36_justFindingsChangeIt() {
        Trial t = Trial.of(STREET, YEAR).finds("mark(0, 7)", UNLIKE);
        t.refuses("tear(6)", BAD).refuses("wake(1, 1, false)", NONE).write(2, "?").refuses("year(2)", STATE);
        t.says("row(0, 1)", 1).tells("at(0, 0)", 0).says("tear(0)", 1).says("finding()", UNLIKE);
    }

    static void promise36_fullIsNone() {
        Trial.of(STREET, "x0".repeat(40)).refuses("event(6, 0, 0, true)", FULL).says("finding()", 0);
    }

    // ---- 37 findings

    static void promise37_howOften() {
        Trial t = Trial.of(STREET, YEAR).says("row(0, 0)", 0);
        String[] calls = {"tear(1)", "at(0, 0)", "mark(0, 7)", "mean(0)", "text(0, -1)"};
        for (int f = 1; f <= 5; f++) {
            for (int i = 0; i < f; i++) {
                t.says(calls[f - 1], -3);
            }
        }
        for (int f = 1; f <= 5; f++) {
            t.says("findings(" + f + ")", f);
        }
    }

    static void promise37_oneFindingACall() {
        new Trial().finds("copy(0, -1, 1, -1, -1)", SIZE).finds("copy(0, -1, 1, -1, 1)", NOTHING)
            .finds("copy(0, 1, 0, 1, 1)", NOTHING);
        new Trial().says("row(0, 0)", 0).finds("copy(0, 1, 0, 1, 1)", BEYOND).finds("mean(0)", NOUGHT);
    }

    static void promise37_otherRefusalsAreNotCounted() {
        Trial t = Trial.of(STREET, YEAR).says("tear(6)", BAD).says("wake(1, 1, false)", NONE).write(2, "?")
            .says("year(2)", STATE);
        for (int f = 1; f <= 5; f++) {
            t.says("findings(" + f + ")", 0);
        }
    }

    static void promise37_noSuchFinding() {
        new Trial().takes("findings(#)", 1, 5);
    }

    static void promise37_aNewStreetLeavesThem() {
        Trial.of(STREET, YEAR).finds("tear(0)", NOTHING).says("street(0)", 2).says("findings(1)", 1)
            .says("finding()", 1);
    }

    // ---- 38 digest

    /** As the document tells it, of what other calls answer, without an end and then cut to a long. */
    private static long digestOf(Trial t, int[] rowSizes, int[][] texts) {
        List<Long> all = new ArrayList<>();
        for (int what = 0; what < 8; what++) {
            all.add(t.call("count(" + what + ")"));
        }
        long houses = all.get(0);
        long persons = all.get(1);
        tellEach(t, all, "house", houses, 4);
        for (int p = 0; p < persons; p++) {
            tellEach(t, all, "person", p, p + 1, 3);
            for (int b = 0; b < persons; b++) {
                if (b != p) {
                    t.call("trust(" + p + ", " + b + ")");
                    all.add(t.call("asked()"));
                }
            }
        }
        tellEach(t, all, "key", all.get(2), 5);
        tellEach(t, all, "told", all.get(4), 4);
        for (int r = 0; r < 6; r++) {
            all.add((long) rowSizes[r]);
            for (int i = 0; i < rowSizes[r]; i++) {
                t.call("at(" + r + ", " + i + ")");
                all.add(t.call("asked()"));
            }
        }
        for (int[] text : texts) {
            all.add(text == null ? -1L : text.length);
            for (int i = 0; text != null && i < text.length; i++) {
                all.add((long) text[i]);
            }
        }
        BigInteger h = BigInteger.valueOf(17);
        for (long v : all) {
            h = h.multiply(BigInteger.valueOf(31)).add(BigInteger.valueOf(v));
        }
        return h.longValue();
    }

    private static void tellEach(Trial t, List<Long> all, String call, long count, int whats) {
        tellEach(t, all, call, 0, count, whats);
    }

    private static void tellEach(Trial t, List<Long> all, String call, long from, long to, int whats) {
        for (long i = from; i < to; i++) {
            for (int what = 0; what < whats; what++) {
                t.call(call + "(" + i + ", " + what + ")");
                all.add(t.call("asked()"));
            }
        }
    }

    private static int[] signs(String text) {
        return text.chars().toArray();
    }

    static void promise38_ofANewObject() {
        // 17 by 31 to the 18th is beyond a long; the ten that are missing take 1 each.
        BigInteger h = BigInteger.valueOf(17).multiply(BigInteger.valueOf(31).pow(8));
        for (int i = 0; i < 10; i++) {
            h = h.multiply(BigInteger.valueOf(31)).subtract(BigInteger.ONE);
        }
        EdgeTest.due.is("beyond a long", h.bitLength() > 64 ? 1 : 0, 1);
        new Trial().says("digest()", h.longValue());
    }

    static void promise38_ofAll() {
        String street = "h9p0:12h8p-:3p1:7";
        String year = "m1>0c0>2x1l0@0i1@1q0/2f1/0m0>1";
        Trial t = Trial.of(street, year).row(2, 5, Integer.MIN_VALUE, Integer.MAX_VALUE).row(5, -1)
            .says("row(0, 0)", 0);
        long want = digestOf(t, new int[] {0, -1, 3, -1, -1, 1}, new int[][] {signs(street), signs(year), null, null});
        t.says("digest()", want).says("digest()", want);
    }

    static void promise38_missingIsNotEmpty() {
        Trial t = new Trial();
        int[] none = {-1, -1, -1, -1, -1, -1};
        t.says("row(3, 0)", 0).says("text(1, 0)", 0);
        long want = digestOf(t, new int[] {-1, -1, -1, 0, -1, -1}, new int[][] {null, {}, null, null});
        t.says("digest()", want).says("tear(3)", 1);
        t.says("digest()", digestOf(t, none, new int[][] {null, {}, null, null}));
    }

    static void promise38_bytesBelow0() {
        Trial t = new Trial().says("text(3, 3)", 3).says("put(3, 0, 200)", 1032).says("put(3, 2, 128)", 1032);
        t.says("digest()", digestOf(t, new int[] {-1, -1, -1, -1, -1, -1}, new int[][] {null, null, null, {-56, 32,
            -128}}));
    }

    static void promise38_aFullRowAndText() {
        Trial t = new Trial().says("row(0, 40)", 40).tells("lay(0, 39, 77)", 0).says("text(0, 120)", 120)
            .says("put(0, 119, 65)", 1032);
        int[] text = new int[120];
        java.util.Arrays.fill(text, 32);
        text[119] = 65;
        t.says("digest()", digestOf(t, new int[] {40, -1, -1, -1, -1, -1}, new int[][] {text, null, null, null}));
    }

    static void promise38_whatIsGoneIsNotTold() {
        // A shorter ROW and TEXT, a smaller STREET and fewer EVENTS leave nothing of what was behind them.
        Trial t = Trial.of("h9h8p0:12p1:7", "m1>0x1q0/1").row(0, 5, 6, 7);
        t.says("back(1)", 2).says("row(0, 1)", 1).write(1, "x").write(0, "h9p0:12").says("street(0)", 1);
        int[] rows = {1, -1, -1, -1, -1, -1};
        t.says("digest()", digestOf(t, rows, new int[][] {signs("h9p0:12"), signs("x"), null, null}));
    }

    static void promise38_tellsNothingElse() {
        Trial t = asked20();
        t.call("digest()");
        t.says("asked()", 20).says("finding()", 0).says("upper()", 0).says("lower()", 1);
    }
}
