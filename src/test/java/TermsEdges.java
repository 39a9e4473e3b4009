/** 'Terms', ahead of 1: refusals and their order, FINDINGS, fractions, sets. */
final class TermsEdges {
    private static final int BAD = Trial.BAD, FULL = Trial.FULL, STATE = Trial.STATE, NONE = Trial.NONE;
    private static final int NOTHING = Trial.NOTHING, BEYOND = Trial.BEYOND, UNLIKE = Trial.UNLIKE;
    private static final int NOUGHT = Trial.NOUGHT, SIZE = Trial.SIZE;

    private TermsEdges() {
    }

    /** Something of all: ROW 1, TEXTS 0 and 1, what asked(), upper(), lower() told, a FINDING. */
    private static Trial rich() {
        Trial t = Trial.of("h20h5p0:6p1:7p-:3", "m0>0m1>1c0>1l2@1q0/1x1");
        t.row(1, 4, -5, 6);
        t.call("tear(5)");
        t.odds("odds(0, 1, false)", 1, 7, 12);
        return t.tells("house(0, 0)", 20);
    }

    static void terms_numbersOfRefusals() {
        int[] got = {StreetKeys.BAD, StreetKeys.FULL, StreetKeys.FINDING, StreetKeys.STATE, StreetKeys.SPENT,
            StreetKeys.NONE};
        int[] due = {-1, -2, -3, -4, -6, -9};
        for (int i = 0; i < due.length; i++) {
            EdgeTest.due.is("constant " + i, got[i], due[i]);
        }
    }

    // ---- an object is used for 512 calls

    static void terms_everyCallHoldsAsThe512th() {
        Object[] due = {"row(0, 3)", 3, "lay(1, 1, 9)", 1, "at(1, 2)", 1, "tear(1)", 1, "copy(1, 0, 1, 1, 2)", 1,
            "mean(1)", 1, "text(3, 7)", 7, "put(0, 0, 65)", 1104, "fault(0, false)", NONE, "street(0)", 2,
            "year(1)", 6, "event(1, 0, 0, true)", 6, "back(2)", 4, "told(3, 0)", 1, "mark(3, 4)", 1,
            "house(0, 0)", 1, "person(2, 0)", 1, "key(0, 0)", 1, "trust(0, 1)", 1, "alone(2)", 1,
            "wake(1, 0, false)", 0, "odds(1, 0, false)", 0, "soonest(1, 0, false)", 3, "round(1, 1, false)", 4,
            "stuck()", 2, "safe(1, 9, 0)", NONE, "suspects(0)", 6, "copies(1, 0)", 0, "dead(1)", 1, "lost(0, 0)", 1,
            "asked()", 20, "upper()", 7, "lower()", 12, "count(3)", 2, "finding()", 1, "findings(1)", 1};
        for (int i = 0; i < due.length; i += 2) {
            rich().idleTo(511).says((String) due[i], (int) due[i + 1]);
        }
        rich().idleTo(511).says("digest()", rich().call("digest()"));
        EdgeTest.due.is("calls of the face", due.length / 2 + 1, 37);
    }

    static void terms_whatTheFirstCallsToldStandsAtThe512th() {
        rich().idleTo(506).tells("at(1, 1)", -5).tells("key(2, 3)", 1).says("year(0)", STATE).says("count(4)", 6);
        rich().idleTo(509).says("at(0, 0)", Trial.FINDING).says("finding()", NOTHING).says("findings(1)", 2);
        rich().idleTo(508).says("back(1)", 5).says("count(2)", 1).says("event(6, 1, 0, true)", 1)
            .says("mark(1, 6)", 1);
    }

    // ---- the order in which a call is refused

    static void terms_badAheadOfFull() {
        Trial t = Trial.of("h1p0:1p0:2", "m0>0".repeat(24));
        t.refuses("event(1, 0, 0, true)", FULL).refuses("event(1, 1, 0, true)", BAD);
        t.refuses("event(2, 0, 0, true)", FULL).refuses("event(2, 24, 0, true)", BAD);
        t.years("x0".repeat(16));
        t.refuses("event(7, 0, 1, true)", FULL).refuses("event(7, 1, 1, true)", BAD);
        t.refuses("event(8, 0, 0, true)", BAD);
    }

    static void terms_badAheadOfFinding() {
        Trial t = new Trial();
        for (String call : new String[] {"row(6, -1)", "lay(6, -1, 0)", "at(-1, -1)", "tear(6)", "copy(6, 0, 0, 0, -1)",
            "copy(0, 0, -1, 0, -1)", "mean(6)", "text(4, -1)", "put(-1, -1, 0)", "fault(4, true)"}) {
            t.refuses(call, BAD);
        }
        Trial.of("h1p0:1", "m0>0").refuses("mark(1, 3)", BAD).refuses("mark(0, 0)", BAD).finds("mark(0, 3)", UNLIKE);
    }

    static void terms_badAheadOfNothingAndState() {
        Trial t = new Trial().write(0, "?").refuses("street(0)", STATE).refuses("year(0)", STATE);
        t.refuses("street(4)", BAD).refuses("street(-1)", BAD).refuses("year(4)", BAD).refuses("year(-1)", BAD);
    }

    static void terms_stateNotAheadOfNothingWhereACallSaysSo() {
        new Trial().finds("street(0)", NOTHING).finds("year(0)", NOTHING);
        rich().finds("street(3)", NOTHING).finds("year(3)", NOTHING);
    }

    static void terms_aYearThatIsTooLongIsStateNotFull() {
        Trial.of("h1p0:1", "x0".repeat(40)).write(2, "x0").refuses("year(2)", STATE)
            .refuses("event(6, 0, 0, true)", FULL);
        Trial.of("h1p0:1", "m0>0".repeat(24)).write(2, "m0>0").refuses("year(2)", STATE);
    }

    static void terms_badAheadOfNone() {
        Trial t = Trial.of("h1h1p0:1p1:1");
        t.refuses("wake(0, 0, true)", NONE).refuses("wake(0, 2, true)", BAD).refuses("wake(2, 0, true)", BAD);
        t.refuses("soonest(0, 0, true)", NONE).refuses("soonest(0, 2, true)", BAD).refuses("soonest(2, 0, true)", BAD);
        t.refuses("round(0, 1, true)", NONE).refuses("round(0, 4, true)", BAD).refuses("round(2, 1, true)", BAD);
        t.refuses("copies(0, 1)", NONE).refuses("copies(0, 2)", BAD).refuses("copies(2, 1)", BAD);
        t.refuses("safe(1, 9, 0)", NONE).refuses("safe(1, 10, 0)", BAD).refuses("safe(1, 9, 6)", BAD);
    }

    // ---- what is refused changes nothing

    static void terms_badChangesNothing() {
        for (String call : new String[] {"row(6, 1)", "row(1, 41)", "lay(6, 0, 9)", "at(6, 0)", "tear(6)",
            "copy(1, 0, 6, 0, 1)", "copy(6, 0, 1, 0, 1)", "mean(6)", "text(4, 1)", "text(0, 121)", "put(4, 0, 65)",
            "fault(4, true)", "street(4)", "year(4)", "event(1, 2, 0, true)", "event(2, 3, 0, true)",
            "event(3, 0, 3, true)", "event(4, 0, 2, true)", "event(5, 3, 0, true)", "event(6, 2, 0, true)",
            "event(7, 2, 2, true)", "event(0, 0, 0, true)", "event(8, 0, 0, true)", "back(7)", "back(-1)",
            "told(6, 0)", "told(0, 4)", "mark(6, 1)", "mark(0, 8)", "house(2, 0)", "house(0, 4)", "person(3, 0)",
            "person(0, 3)", "key(3, 0)", "key(0, 5)", "trust(0, 3)", "trust(1, 1)", "alone(3)", "wake(3, 0, true)",
            "odds(3, 0, true)", "odds(0, 2, true)", "soonest(0, 2, true)", "round(0, 4, true)", "safe(3, 9, 1)",
            "safe(1, 10, 1)", "suspects(2)", "copies(0, 0)", "copies(3, 0)", "dead(2)", "lost(3, 1)", "lost(0, 6)",
            "count(8)", "findings(6)", "findings(0)"}) {
            rich().refuses(call, BAD);
        }
    }

    static void terms_fullChangesNothing() {
        Trial t = Trial.of("h1p0:1p0:2", "m0>0".repeat(24), "x0".repeat(15));
        t.refuses("event(1, 0, 1, true)", FULL).refuses("event(2, 0, 1, true)", FULL);
        t.says("event(6, 0, 0, true)", 39);
        for (int kind = 1; kind <= 7; kind++) {
            t.refuses("event(" + kind + ", 0, " + (kind == 7 ? 1 : 0) + ", true)", FULL);
        }
    }

    static void terms_stateChangesNothing() {
        Trial t = rich().write(2, "h99h98p0:12p1:11p1:10p").refuses("street(2)", STATE);
        t.tells("house(0, 0)", 20).tells("person(0, 1)", 6);
        rich().write(2, "x0x1m0>0q1/0g9>0").refuses("year(2)", STATE).tells("house(0, 1)", 0);
    }

    static void terms_findingChangesJustFindings() {
        rich().finds("row(1, -1)", SIZE).finds("text(0, -1)", SIZE).finds("copy(1, 0, 1, 1, -1)", SIZE);
        rich().finds("lay(0, 0, 1)", NOTHING).finds("at(0, 0)", NOTHING).finds("tear(0)", NOTHING);
        rich().finds("copy(1, 0, 0, 0, 1)", NOTHING).finds("mean(0)", NOTHING).finds("put(3, 0, 1)", NOTHING);
        rich().finds("fault(3, true)", NOTHING).finds("street(3)", NOTHING).finds("year(3)", NOTHING);
        rich().finds("lay(1, 3, 1)", BEYOND).finds("at(1, 3)", BEYOND).finds("copy(1, 0, 1, 1, 3)", BEYOND);
        rich().finds("put(0, 120, 65)", BEYOND).finds("mark(0, 2)", UNLIKE);
        Trial t = rich();
        t.says("row(0, 0)", 0);
        t.finds("mean(0)", NOUGHT);
    }

    static void terms_noneChangesNothing() {
        Trial t = rich().write(2, "  ");
        t.refuses("fault(2, false)", NONE).refuses("fault(2, true)", NONE);
        t.refuses("wake(1, 1, false)", NONE).refuses("soonest(1, 1, false)", NONE).refuses("round(1, 2, false)", NONE);
        t.refuses("safe(1, 9, 1)", NONE).refuses("copies(0, 1)", NONE);
    }

    // ---- FINDINGS 1 to 5

    static void terms_finding1IsNothing() {
        new Trial().finds("at(0, 0)", 1).finds("put(0, 0, 0)", 1);
    }

    static void terms_finding2IsBeyond() {
        Trial t = new Trial();
        t.row(0, 5).says("text(0, 1)", 1);
        t.finds("at(0, 1)", 2).finds("put(0, 1, 0)", 2);
    }

    static void terms_finding3IsUnlike() {
        Trial.of("h1p0:1", "x0").finds("mark(0, 1)", 3);
    }

    static void terms_finding4IsNought() {
        Trial t = new Trial();
        t.row(0).finds("mean(0)", 4);
    }

    static void terms_finding5IsSize() {
        new Trial().finds("row(0, -1)", 5).finds("text(0, -1)", 5);
    }

    // ---- fractions and sets

    static void terms_fractionsInLowestTerms() {
        // One who holds the key ANSWERS by a twelfths.
        int[][] due = {{1, 1, 12}, {2, 1, 6}, {3, 1, 4}, {4, 1, 3}, {5, 5, 12}, {6, 1, 2}, {8, 2, 3}, {9, 3, 4},
            {10, 5, 6}, {11, 11, 12}};
        for (int[] d : due) {
            Trial.of("h1h1p0:0p1:" + d[0], "m0>1").odds("odds(0, 0, false)", 1, d[1], d[2]);
        }
        // 1 - 8/12 6/12 = 2/3; 1 - 4/12 3/12 = 11/12
        Trial.of("h1h1p0:0p1:4p1:6", "m0>1m0>2").odds("odds(0, 0, false)", 2, 2, 3);
        Trial.of("h1h1p0:0p1:8p1:9", "m0>1m0>2").odds("odds(0, 0, false)", 2, 11, 12);
    }

    static void terms_noughtIsZeroByOne() {
        // By one who never ANSWERS, by some without the key, by nobody at all.
        Trial.of("h1h1p0:0p1:0", "m0>1").odds("odds(0, 0, false)", 1, 0, 1);
        Trial.of("h1h1p0:0p1:5p1:7", "m1>1").odds("odds(0, 0, false)", 2, 0, 1);
        Trial.of("h1p0:5").odds("odds(0, 0, false)", 0, 0, 1);
    }

    static void terms_allIsOneByOne() {
        Trial.of("h1h1p0:0p1:12p1:5", "m0>1m0>2").odds("odds(0, 0, false)", 2, 1, 1);
        Trial.of("h1p0:5", "m0>0").odds("odds(0, 0, true)", 0, 1, 1);
    }

    static void terms_setsAreToldByBits() {
        Trial t = Trial.of("h1".repeat(6) + "p5:1".repeat(12), "m5>11".repeat(24));
        t.tells("house(5, 2)", (1 << 24) - 1).tells("house(5, 3)", (1 << 12) - 1);
        t.tells("person(11, 2)", (1 << 24) - 1).tells("key(23, 4)", 1 << 11);
        t.says("alone(11)", 1 << 5).tells("stuck()", 31, 31);
        t.tells("wake(0, 5, false)", 1, 1 << 1);
        t.tells("suspects(5)", 0, 0);
    }
}
