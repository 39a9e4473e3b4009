/** Promises 10 to 16: FAULTS, STREETS, YEARS and EVENTS. */
final class EventEdges {
    private static final int BAD = Trial.BAD, FULL = Trial.FULL, STATE = Trial.STATE, NONE = Trial.NONE;
    private static final int NOTHING = Trial.NOTHING, UNLIKE = Trial.UNLIKE;
    private static final String STREET = "h7h8p0:1p1:2p-:3";
    /** An EVENT of each KIND, and the other of TRUST, too: KEYS 0 and 1. */
    private static final String YEAR = "m1>2c0>1g1>2l0@1i1@0x1q0/2f2/1";

    private EventEdges() {
    }

    // ---- 10 fault

    static void promise10_noneOfAnEmptyText() {
        new Trial().says("text(0, 0)", 0).refuses("fault(0, false)", NONE).refuses("fault(0, true)", NONE);
    }

    static void promise10_noneOfBlanks() {
        new Trial().says("text(0, 120)", 120).refuses("fault(0, false)", NONE).refuses("fault(0, true)", NONE);
    }

    static void promise10_ofAStreetOrOfAYear() {
        Trial t = Trial.of("h1p0:1").write(2, "h1").refuses("fault(2, false)", NONE).says("fault(2, true)", 0);
        t.write(2, "x0").says("fault(2, false)", 0).refuses("fault(2, true)", NONE);
    }

    static void promise10_aFaultAtPlace0() {
        new Trial().write(0, "?").says("fault(0, false)", 0).says("fault(0, true)", 0);
    }

    static void promise10_aFaultAtTheSize() {
        new Trial().write(0, " ".repeat(119) + "h").says("fault(0, false)", 120);
        Trial.of("h1").write(0, " ".repeat(119) + "x").says("fault(0, true)", 120);
    }

    static void promise10_ofAYearBehindAllEventsThatThereAre() {
        Trial t = Trial.of("h1p0:1").write(2, "g0>0").says("fault(2, true)", 2);
        t.says("event(1, 0, 0, true)", 0).says("fault(2, true)", NONE).says("back(0)", 1).says("fault(2, true)", 2);
        t.says("event(1, 0, 0, true)", 0).says("street(0)", 1).says("fault(2, true)", 2);
    }

    static void promise10_ofAYearWithoutAStreet() {
        new Trial().write(0, "x0").says("fault(0, true)", 1).write(0, "m0>0").says("fault(0, true)", 1)
            .write(0, "q0/1").says("fault(0, true)", 2).write(0, "g0>0").says("fault(0, true)", 2);
    }

    static void promise10_changesNothing() {
        Trial t = Trial.of(STREET, YEAR).write(2, "h9p0:9").write(3, "x0m0>0");
        t.refuses("fault(2, false)", NONE).refuses("fault(3, true)", NONE);
        t.tells("house(0, 0)", 7).says("count(1)", 3).says("count(2)", 2).says("count(4)", 8);
    }

    static void promise10_aMissingText() {
        new Trial().finds("fault(0, false)", NOTHING).finds("fault(3, true)", NOTHING);
    }

    static void promise10_noSuchText() {
        new Trial().write(0, "").write(3, "").takes("fault(#, false)", 0, 3).takes("fault(#, true)", 0, 3);
    }

    // ---- 11 street

    static void promise11_noHouses() {
        new Trial().says("text(0, 0)", 0).says("street(0)", 0).write(0, "p-:1").says("street(0)", 0)
            .says("count(1)", 1);
    }

    static void promise11_sixHouses() {
        new Trial().write(0, "h1".repeat(6)).says("street(0)", 6).says("count(0)", 6).tells("house(5, 0)", 1);
    }

    static void promise11_anew() {
        Trial t = Trial.of("h1h2h3p2:5p2:6").write(2, "h9p0:7").says("street(2)", 1).says("count(0)", 1)
            .says("count(1)", 1);
        t.tells("house(0, 0)", 9).tells("person(0, 1)", 7).refuses("house(1, 0)", BAD).refuses("person(1, 0)", BAD);
        t.says("text(2, 0)", 0).says("street(2)", 0).says("count(0)", 0).says("count(1)", 0);
    }

    static void promise11_theSameAnew() {
        Trial.of(STREET, YEAR).says("street(0)", 2).says("count(0)", 2).says("count(1)", 3).says("count(4)", 0);
    }

    static void promise11_eventsGo() {
        Trial t = Trial.of(STREET, YEAR).tells("trust(0, 2)", -1).says("street(0)", 2);
        t.says("count(2)", 0).says("count(4)", 0).says("back(0)", 0);
        t.tells("house(1, 1)", 0).tells("trust(0, 2)", 0).tells("person(2, 2)", 0).refuses("told(0, 0)", BAD);
        t.refuses("key(0, 0)", BAD).says("event(6, 0, 0, true)", 0);
    }

    static void promise11_rowsAndTextsStay() {
        new Trial().row(0, 5).write(2, "h1").says("street(2)", 1).rowIs(0, 5).says("put(2, 0, 1)", 1104);
    }

    static void promise11_aFaultIsState() {
        Trial t = Trial.of(STREET, YEAR).write(2, "h1h2h3h4p3:9p").refuses("street(2)", STATE);
        t.tells("house(0, 0)", 7).says("count(0)", 2).says("count(1)", 3).says("count(4)", 8);
        t.write(2, "?").refuses("street(2)", STATE).write(2, "h").refuses("street(2)", STATE);
    }

    static void promise11_nothingAheadOfState() {
        Trial.of(STREET, YEAR).finds("street(2)", NOTHING).finds("street(3)", NOTHING);
    }

    static void promise11_noSuchText() {
        new Trial().write(0, "h1").write(3, "h2").takes("street(#)", 0, 3);
    }

    // ---- 12 year

    static void promise12_noEvents() {
        Trial t = Trial.of(STREET, "x0").write(2, "").says("year(2)", 0).write(2, "   ").says("year(2)", 0);
        t.says("count(4)", 1);
        new Trial().says("text(0, 0)", 0).says("year(0)", 0);
    }

    static void promise12_comeToThoseThatThereAre() {
        Trial t = Trial.of(STREET).write(2, "m0>0x0").says("year(2)", 2).says("year(2)", 2).says("count(4)", 4);
        t.says("count(2)", 2).tells("key(0, 1)", 0).tells("house(0, 1)", 2).says("event(6, 0, 0, true)", 4);
    }

    static void promise12_allOrNone() {
        Trial t = Trial.of(STREET, "m0>0").write(2, "x0g0>1q0/1m1>2l0@5").refuses("year(2)", STATE);
        t.says("count(4)", 1).says("count(2)", 1).tells("house(0, 1)", 0).tells("key(0, 3)", 0).tells("trust(0, 1)", 0);
    }

    static void promise12_fortyAreNotTooMany() {
        Trial t = Trial.of(STREET, "x0").write(2, "x0".repeat(40)).refuses("year(2)", STATE).says("count(4)", 1);
        t.write(2, "x0".repeat(39)).says("year(2)", 39).says("count(4)", 40).refuses("year(2)", STATE);
        t.write(2, "").says("year(2)", 0);
    }

    static void promise12_twentyFourKeysAreNotTooMany() {
        Trial t = Trial.of(STREET, "m0>0").write(2, "m0>0".repeat(24)).refuses("year(2)", STATE).says("count(2)", 1);
        t.write(2, "m0>0".repeat(23)).says("year(2)", 23).says("count(2)", 24);
        t.write(2, "c0>0").refuses("year(2)", STATE).write(2, "g23>1").says("year(2)", 1);
    }

    static void promise12_nothingAheadOfState() {
        Trial.of(STREET, YEAR).finds("year(2)", NOTHING).finds("year(3)", NOTHING);
    }

    static void promise12_noSuchText() {
        Trial.of(STREET).write(0, "x0").write(3, "x0").takes("year(#)", 0, 3);
    }

    static void promise12_asByEvent() {
        Trial t = Trial.of(STREET, YEAR);
        Trial u = Trial.of(STREET).write(1, YEAR);
        String[] calls = {"1, 1, 2, false", "2, 0, 1, true", "3, 1, 2, true", "4, 0, 1, true", "5, 1, 0, true",
            "6, 1, 77, true", "7, 0, 2, false", "7, 2, 1, true"};
        for (int e = 0; e < calls.length; e++) {
            u.says("event(" + calls[e] + ")", e);
        }
        EdgeTest.due.is("digest by event() as by year()", u.call("digest()"), t.call("digest()"));
    }

    // ---- 13 event

    static void promise13_itsNumber() {
        Trial t = Trial.of("h1");
        for (int e = 0; e < 40; e++) {
            t.says("event(6, 0, 0, true)", e);
        }
    }

    static void promise13_kindsAre1To7() {
        Trial.of(STREET, YEAR).takes("event(#, 0, 1, true)", 1, 7).refuses("event(0, 0, 1, true)", BAD);
    }

    static void promise13_madeTakesHouseAndPerson() {
        Trial.of(STREET, YEAR).takes("event(1, #, 0, true)", 0, 1).takes("event(1, 0, #, true)", 0, 2);
    }

    static void promise13_copyTakesKeyAndPerson() {
        Trial.of(STREET, YEAR).takes("event(2, 0, #, true)", 0, 2);
        Trial t = Trial.of(STREET, YEAR).refuses("event(2, 2, 0, true)", BAD).says("event(2, 1, 0, true)", 8);
        t.refuses("event(2, 3, 0, true)", BAD).refuses("event(2, -1, 0, true)", BAD).says("event(2, 2, 0, true)", 9);
        t.refuses("event(2, MIN, 0, true)", BAD).refuses("event(2, MAX, 0, true)", BAD);
    }

    static void promise13_ofTheLastHouseAndTheLastPerson() {
        Trial t = Trial.of("h1".repeat(6) + "p0:1".repeat(12)).says("event(1, 5, 11, true)", 0)
            .says("event(6, 5, 0, true)", 1);
        t.tells("house(5, 1)", 1).tells("key(0, 1)", 0).says("event(7, 11, 10, false)", 2).tells("trust(11, 10)", -1);
        t.says("back(1)", 2).tells("house(5, 1)", 0).tells("key(0, 1)", 1).tells("trust(11, 10)", 0);
        t.says("event(1, 5, 11, true)", 1).tells("key(1, 1)", 1);
    }

    static void promise13_givenTakesKeyAndPerson() {
        Trial.of(STREET, YEAR).takes("event(3, #, 0, true)", 0, 1).takes("event(3, 0, #, true)", 0, 2);
    }

    static void promise13_laidTakesKeyAndHouse() {
        Trial.of(STREET, YEAR).takes("event(4, #, 0, true)", 0, 1).takes("event(4, 0, #, true)", 0, 1);
    }

    static void promise13_insideTakesKeyAndHouse() {
        Trial.of(STREET, YEAR).takes("event(5, #, 0, true)", 0, 1).takes("event(5, 0, #, true)", 0, 1);
    }

    static void promise13_changedTakesHouseAndNoB() {
        Trial t = Trial.of(STREET, YEAR).takes("event(6, #, 0, true)", 0, 1);
        t.says("event(6, 0, -1, true)", 10).says("event(6, 0, MAX, true)", 11).says("event(6, 0, MIN, false)", 12);
        t.tells("told(10, 2)", 0).tells("told(11, 2)", 0).tells("told(12, 2)", 0).tells("house(0, 1)", 4);
    }

    static void promise13_trustTakesTwoPersons() {
        Trial.of(STREET, YEAR).takes("event(7, #, 1, true)", 0, 2).takes("event(7, 1, #, true)", 0, 2);
    }

    static void promise13_trustOfHimselfIsBad() {
        Trial t = Trial.of(STREET, YEAR);
        for (int p = 0; p < 3; p++) {
            t.refuses("event(7, " + p + ", " + p + ", true)", BAD);
        }
    }

    static void promise13_moreOrLessIsOfTrustAlone() {
        Trial t = Trial.of(STREET, "m0>0").says("event(7, 0, 1, true)", 1).says("event(7, 1, 0, false)", 2);
        t.tells("trust(0, 1)", 1).tells("trust(1, 0)", -1).tells("told(1, 3)", 1).tells("told(2, 3)", -1);
        t.says("event(3, 0, 1, true)", 3).says("event(3, 0, 1, false)", 4).tells("told(3, 3)", 0)
            .tells("told(4, 3)", 0);
    }

    static void promise13_withoutHousesPersonsKeys() {
        Trial t = new Trial();
        for (int kind = 1; kind <= 7; kind++) {
            t.refuses("event(" + kind + ", 0, " + (kind == 7 ? 1 : 0) + ", true)", BAD);
        }
        Trial u = Trial.of("h1p0:1");
        for (int kind = 2; kind <= 5; kind++) {
            u.refuses("event(" + kind + ", 0, 0, true)", BAD);
        }
    }

    static void promise13_aFortyFirstEventIsFull() {
        Trial t = Trial.of("h1p0:1", "x0".repeat(39)).says("event(6, 0, 0, true)", 39)
            .refuses("event(6, 0, 0, true)", FULL);
        t.refuses("event(1, 0, 0, true)", FULL).says("back(39)", 1).says("event(1, 0, 0, true)", 39);
    }

    static void promise13_aTwentyFifthKeyIsFull() {
        Trial t = Trial.of("h1p0:1", "m0>0".repeat(23)).says("event(1, 0, 0, true)", 23);
        t.refuses("event(1, 0, 0, true)", FULL).refuses("event(2, 0, 0, true)", FULL);
        t.says("event(3, 23, 0, true)", 24).says("event(4, 23, 0, true)", 25).says("event(5, 23, 0, true)", 26);
        t.says("event(6, 0, 0, true)", 27).refuses("event(2, 23, 0, true)", FULL);
    }

    // ---- 14 back

    static void promise14_to0() {
        Trial t = Trial.of(STREET, YEAR).says("back(0)", 8).says("count(4)", 0).says("count(2)", 0).says("back(0)", 0);
        EdgeTest.due.is("digest", t.call("digest()"), Trial.of(STREET).write(1, YEAR).call("digest()"));
    }

    static void promise14_toAsManyAsThereAre() {
        Trial t = Trial.of(STREET, YEAR);
        long before = t.call("digest()");
        t.says("back(8)", 0).says("digest()", before);
        new Trial().says("back(0)", 0);
    }

    static void promise14_toOneLess() {
        Trial.of(STREET, YEAR).tells("trust(2, 1)", 1).says("back(7)", 1).says("count(4)", 7).tells("trust(2, 1)", 0);
    }

    static void promise14_moreThanThereAreIsBad() {
        Trial.of(STREET, YEAR).refuses("back(9)", BAD).refuses("back(40)", BAD).refuses("back(MAX)", BAD);
        new Trial().refuses("back(1)", BAD);
    }

    static void promise14_below0IsBad() {
        Trial.of(STREET, YEAR).refuses("back(-1)", BAD).refuses("back(MIN)", BAD);
    }

    static void promise14_asIfTheyHadNeverBeen() {
        for (int n = 0; n <= 8; n++) {
            // Of YEAR's items all but the one of CHANGED have 4 signs.
            int signs = n <= 5 ? 4 * n : 4 * n - 2;
            Trial t = Trial.of(STREET, YEAR).says("back(" + n + ")", 8 - n);
            Trial u = Trial.of(STREET, YEAR.substring(0, signs)).write(1, YEAR);
            EdgeTest.due.is("digest behind back(" + n + ")", t.call("digest()"), u.call("digest()"));
        }
    }

    static void promise14_trustIsNotJustTakenBack() {
        // The fourth q did nothing, so taking it back does nothing, too.
        Trial t = Trial.of("p-:1p-:1", "q0/1q0/1q0/1q0/1q0/1").says("back(4)", 1).tells("trust(0, 1)", -3);
        t.says("back(3)", 1).tells("trust(0, 1)", -3).says("back(2)", 1).tells("trust(0, 1)", -2);
        Trial.of("p-:1p-:1", "f0/1f0/1f0/1f0/1").says("back(3)", 1).tells("trust(0, 1)", 3);
    }

    static void promise14_passedAndLocksGoBack() {
        Trial t = Trial.of(STREET, "m0>0x0g0>1g0>0").tells("key(0, 4)", 3).says("back(3)", 1).tells("key(0, 4)", 3);
        t.tells("key(0, 3)", 1).says("back(2)", 1).tells("key(0, 4)", 1).tells("key(0, 1)", 0);
        t.says("back(1)", 1).tells("key(0, 1)", 1).says("event(1, 0, 1, true)", 1).tells("key(1, 4)", 2);
    }

    // ---- 15 told

    static void promise15_ofEachEvent() {
        int[][] due = {{1, 1, 2, 0}, {2, 0, 1, 0}, {3, 1, 2, 0}, {4, 0, 1, 0}, {5, 1, 0, 0}, {6, 1, 0, 0}, {7, 0, 2,
            -1},
            {7, 2, 1, 1}};
        Trial t = Trial.of(STREET, YEAR);
        for (int e = 0; e < due.length; e++) {
            for (int what = 0; what < 4; what++) {
                t.tells("told(" + e + ", " + what + ")", due[e][what]);
            }
        }
    }

    static void promise15_bNotLookedAtIs0() {
        Trial t = Trial.of(STREET, "x1").says("event(6, 1, 2, true)", 1);
        t.tells("told(0, 2)", 0).tells("told(1, 2)", 0).tells("told(1, 1)", 1).tells("told(1, 3)", 0);
    }

    static void promise15_trustsChangeThoughNothingChanged() {
        Trial.of("p-:1p-:1", "q0/1q0/1q0/1q0/1").tells("told(3, 3)", -1);
        Trial.of("p-:1p-:1", "f0/1f0/1f0/1f0/1").tells("told(3, 3)", 1);
    }

    static void promise15_noSuchEvent() {
        Trial.of(STREET, YEAR).takes("told(#, 0)", 0, 7);
        new Trial().refuses("told(0, 0)", BAD);
        Trial.of(STREET, YEAR).says("back(5)", 3).takes("told(#, 0)", 0, 4);
    }

    static void promise15_noSuchWhat() {
        Trial.of(STREET, YEAR).takes("told(0, #)", 0, 3);
    }

    // ---- 16 mark

    static void promise16_ofEachKind() {
        int u = Trial.FINDING;
        int[][] due = {{0, u, u, u, u, u, u}, {1, 0, u, u, u, u, u}, {u, u, 2, u, u, u, u}, {u, u, u, 1, u, u, u},
            {u, u, u, 0, 1, u, u}, {u, u, u, u, u, 1, u}, {u, u, u, u, u, u, 0}, {u, u, u, u, u, u, 2}};
        Trial t = Trial.of(STREET, YEAR);
        for (int e = 0; e < due.length; e++) {
            for (int kind = 1; kind <= 7; kind++) {
                t.says("mark(" + e + ", " + kind + ")", due[e][kind - 1]);
            }
        }
        t.says("finding()", UNLIKE).says("findings(3)", 56 - 10);
    }

    static void promise16_aMadeOneItsKeyNotItsHouse() {
        Trial t = Trial.of("h1h1h1p0:1p0:1", "x0m2>1x0m1>0c1>1").says("mark(1, 1)", 0).says("mark(3, 1)", 1);
        t.says("mark(4, 1)", 2).says("mark(4, 2)", 1);
    }

    static void promise16_unlike() {
        Trial t = Trial.of(STREET, YEAR);
        t.finds("mark(0, 2)", UNLIKE).finds("mark(3, 5)", UNLIKE).finds("mark(1, 3)", UNLIKE)
            .finds("mark(2, 1)", UNLIKE);
        t.finds("mark(5, 7)", UNLIKE).finds("mark(6, 6)", UNLIKE).finds("mark(4, 3)", UNLIKE);
    }

    static void promise16_kind0IsBad() {
        Trial t = Trial.of(STREET, YEAR);
        for (int e = 0; e < 8; e++) {
            t.refuses("mark(" + e + ", 0)", BAD);
        }
    }

    static void promise16_noSuchKind() {
        Trial t = Trial.of(STREET, "m0>0q0/1").refuses("mark(0, 8)", BAD).refuses("mark(0, -1)", BAD);
        t.refuses("mark(0, MIN)", BAD).refuses("mark(0, MAX)", BAD).says("mark(0, 1)", 0).says("mark(1, 7)", 0);
    }

    static void promise16_noSuchEvent() {
        Trial.of(STREET, "m0>0m1>0").takes("mark(#, 1)", 0, 1).refuses("mark(2, 0)", BAD);
        new Trial().refuses("mark(0, 1)", BAD);
    }

    static void promise16_isNotAsked() {
        Trial.of(STREET, YEAR).tells("house(0, 0)", 7).tells("mark(1, 1)", 1, 7).tells("mark(4, 4)", 0, 7);
    }
}
