/** Promises 27 to 31: plans, suspects, rings. */
final class PlanEdges {
    private static final int BAD = Trial.BAD, NONE = Trial.NONE;
    private static final String SIX = "h1h1h1h1h1h1";
    private static final String FOUR = "h1h1h1h1p0:1p1:1p2:1p3:1";
    private static final String STREET = "h7h8h9p0:1p1:1p1:1p-:1";

    private PlanEdges() {
    }

    // ---- 27 safe

    static void promise27_nIs1Or2() {
        Trial.of(FOUR).takes("safe(#, 9, 0)", 1, 2);
    }

    static void promise27_mIs0To9() {
        Trial.of(FOUR).takes("safe(1, #, 0)", 0, 9).takes("safe(2, #, 5)", 0, 9);
    }

    static void promise27_noSuchRow() {
        Trial.of(FOUR).takes("safe(1, 9, #)", 0, 5).says("count(6)", 2);
        Trial.of("h1").takes("safe(1, 0, #)", 0, 5);
    }

    static void promise27_noHousesNoPersons() {
        new Trial().says("safe(1, 0, 0)", 0).rowIs(0).says("safe(2, 9, 5)", 0).rowIs(5).says("count(6)", 2);
        Trial.of("p-:1").says("safe(1, 0, 0)", 0).rowIs(0);
        Trial.of(SIX).says("safe(2, 0, 0)", 0).rowIs(0);
    }

    static void promise27_noKeysIfAllAreSafe() {
        Trial t = Trial.of("h1h1h1p0:1p1:1p2:1", "m0>1m0>2m1>0m1>2m2>0m2>1").row(0, 5, 6).says("safe(1, 0, 0)", 0)
            .rowIs(0);
        t.years("x0").says("safe(1, 1, 0)", 2).rowIs(0, 0, 1, 0, 2);
    }

    static void promise27_theRowIsAnew() {
        Trial t = Trial.of("h1h1h1p0:1p1:1p2:1", "m0>1m1>0m1>2m2>0m2>1").says("row(0, 40)", 40)
            .tells("lay(0, 0, 9)", 0);
        t.says("safe(1, 1, 0)", 1).rowIs(0, 0, 2);
    }

    static void promise27_noneAndTheRowStays() {
        Trial t = Trial.of(FOUR).row(0, 7, 8, 9).tells("at(0, 1)", 8).refuses("safe(1, 1, 0)", NONE);
        t.refuses("safe(2, 2, 0)", NONE).refuses("safe(1, 1, 3)", NONE).rowIs(0, 7, 8, 9).says("count(6)", 1);
    }

    static void promise27_theMostKeys() {
        // Six HOUSES, three KEYS each: 18 pairs, each HOUSE is given a KEY of three.
        Trial t = Trial.of(SIX + "p0:1p1:1p2:1p3:1p4:1p5:1").says("safe(2, 2, 0)", NONE).says("safe(2, 3, 0)", 18);
        t.rowIs(0, 0, 1, 0, 2, 0, 3, 1, 0, 1, 2, 1, 3, 2, 0, 2, 4, 2, 5, 3, 0, 3, 4, 3, 5, 4, 1, 4, 2, 4, 5, 5, 1, 5,
            3, 5, 4);
        t.says("safe(2, 9, 0)", 18).rowIs(0, 0, 1, 0, 2, 0, 3, 1, 0, 1, 2, 1, 3, 2, 0, 2, 1, 2, 3, 3, 0, 3, 1, 3, 2,
            4, 0, 4, 1, 4, 2, 5, 0, 5, 1, 5, 2);
    }

    static void promise27_theFirstPlanThatGoesOn() {
        // 0 needs 1 or 2, but 3 needs 1 (2 does not help it): with one new KEY for each, 0 has to take 2.
        Trial t = Trial.of(FOUR, "m3>0m0>3m1>3m1>2m2>0m2>1q3/2").says("safe(1, 1, 0)", 2).rowIs(0, 0, 2, 3, 1);
        t.says("safe(1, 2, 0)", 2).rowIs(0, 0, 1, 3, 1).says("safe(1, 0, 0)", NONE);
    }

    static void promise27_withTheLastHouse() {
        String six = SIX + "p0:1p1:1p2:1p3:1p4:1p5:1";
        Trial t = Trial.of(six, "m0>5").says("safe(1, 9, 3)", 11);
        t.rowIs(3, 0, 1, 1, 0, 1, 2, 2, 0, 2, 1, 3, 0, 3, 1, 4, 0, 4, 1, 5, 0, 5, 1);
        t.years("q0/5").says("safe(1, 9, 3)", 12);
        t.rowIs(3, 0, 1, 0, 2, 1, 0, 1, 2, 2, 0, 2, 1, 3, 0, 3, 1, 4, 0, 4, 1, 5, 1, 5, 2);
        // 0 needs 5, 1 needs 3 or 4, 2 needs 3 or 5: with one new KEY for each, 2 takes 3, so 1 takes 4.
        t = Trial.of(six, "m0>1m1>0m2>4m3>2m3>4m4>2m4>3m5>2m5>3q0/2q0/3q0/4q1/2q1/5");
        t.says("safe(1, 1, 4)", 3).rowIs(4, 0, 5, 1, 4, 2, 3).says("safe(1, 2, 4)", 3).rowIs(4, 0, 5, 1, 3, 2, 3);
    }

    static void promise27_isNotAsked() {
        Trial.of(FOUR).tells("house(3, 3)", 8).tells("safe(1, 2, 0)", 8, 8);
    }

    static void promise27_givesNoKeys() {
        Trial.of(FOUR).says("safe(1, 2, 0)", 8).says("count(2)", 0).says("count(4)", 0).says("safe(1, 2, 0)", 8);
    }

    // ---- 28 suspects

    static void promise28_nobody() {
        Trial.of(STREET).tells("suspects(0)", 0, 0).tells("suspects(2)", 0, 0);
        Trial.of("h1").tells("suspects(0)", 0, 0);
    }

    static void promise28_everybodyByAPot() {
        Trial t = Trial.of(STREET, "m2>0l0@1").tells("suspects(2)", 15, 15);
        t.years("m0>1l1@0").tells("suspects(0)", 2 + 4 + 8, 2 + 4 + 8);
    }

    static void promise28_notWhoLivesThere() {
        Trial.of(STREET, "m1>1m1>2m1>0").tells("suspects(1)", 1, 1).tells("suspects(0)", 0, 0);
    }

    static void promise28_byCopiesThoseAloneToo() {
        // 1 had it, 3 has it.
        Trial.of(STREET, "m0>1g0>3").tells("suspects(0)", 8, 2 + 8);
    }

    static void promise28_deadKeysThatPassedAreNoCopies() {
        Trial.of(STREET, "m0>1g0>3x0").tells("suspects(0)", 0, 0);
    }

    static void promise28_noSuchHouse() {
        Trial.of(STREET, "m0>1").takes("suspects(#)", 0, 2);
    }

    static void promise28_noHouses() {
        new Trial().refuses("suspects(0)", BAD);
        Trial.of("p-:1").refuses("suspects(0)", BAD);
    }

    // ---- 29 copies

    static void promise29_noneNeededAlone() {
        Trial.of(STREET, "m0>1").tells("house(0, 0)", 7).tells("copies(1, 0)", 0, 0);
        Trial.of(STREET, "m0>1l0@1").tells("house(0, 0)", 7).tells("copies(3, 0)", 0, 0).tells("copies(1, 0)", 0, 0);
    }

    static void promise29_one() {
        Trial.of(STREET, "m0>1g0>0").tells("copies(1, 0)", 1, 1);
        // A COPY of the KEY of 2, INSIDE which lies one of 0.
        Trial.of(STREET, "m2>1g0>0m0>0i1@2").tells("copies(1, 0)", 1, 4);
    }

    static void promise29_theFirstSuch() {
        // KEYS of 2 and of 0 passed 1, and INSIDE 2 lies one of 0: HOUSE 0 is the first by bits.
        Trial t = Trial.of(STREET, "m2>1g0>0m0>1i1@2m0>0g2>1g2>0").tells("copies(1, 0)", 1, 1);
        // KEYS of 1 and 2 passed 3, INSIDE both lies one of 0, and each key there passed others alone.
        t = Trial.of(STREET, "m2>3g0>0m1>3g1>0m0>0i2@1m0>0i3@2").tells("copies(3, 0)", 1, 2);
        t.years("i2@0").tells("copies(3, 0)", 1, 4);
    }

    static void promise29_ofTheLastHouse() {
        Trial.of(SIX + "p-:1p-:1", "m5>0g0>1").tells("copies(0, 5)", 1, 32).tells("copies(1, 5)", 0, 0);
    }

    static void promise29_neverMoreThanOneIsNeeded() {
        // From 1 to 2 and from 2 to 0: the COPY of that of 1 leads on alone.
        Trial.of(STREET, "m1>3g0>0m2>0i1@1m0>0i2@2").tells("copies(3, 0)", 1, 2).tells("copies(3, 2)", 1, 2);
    }

    static void promise29_ofLiveKeysAlone() {
        Trial.of(STREET, "m0>1g0>0x0").tells("house(0, 0)", 7).refuses("copies(1, 0)", NONE);
    }

    static void promise29_ofKeysThatPassedHimAlone() {
        Trial.of(STREET, "m0>0g0>2").tells("house(0, 0)", 7).refuses("copies(1, 0)", NONE).tells("copies(2, 0)", 0, 0);
    }

    static void promise29_none() {
        Trial.of(STREET).tells("house(0, 0)", 7).refuses("copies(1, 0)", NONE).refuses("copies(3, 2)", NONE);
    }

    static void promise29_oneWhoLivesThereIsBad() {
        Trial t = Trial.of(STREET, "m0>0m1>1m1>2").refuses("copies(0, 0)", BAD).refuses("copies(1, 1)", BAD)
            .refuses("copies(2, 1)", BAD);
        t.says("copies(0, 1)", NONE).says("copies(3, 0)", NONE);
    }

    static void promise29_noSuchPersonOrHouse() {
        Trial.of(STREET, "m0>1").takes("copies(#, 2)", 0, 3).takes("copies(3, #)", 0, 2);
    }

    static void promise29_noHousesNoPersons() {
        new Trial().refuses("copies(0, 0)", BAD);
        Trial.of("p-:1").refuses("copies(0, 0)", BAD).refuses("copies(0, -9)", BAD);
        Trial.of("h1").refuses("copies(0, 0)", BAD);
    }

    // ---- 30 dead

    static void promise30_noneAndNobody() {
        Trial.of(STREET, "m0>1").tells("dead(0)", 0, 0).tells("dead(1)", 0, 0);
        Trial.of(STREET, "x0").tells("dead(0)", 0, 0);
    }

    static void promise30_keysOfThatHouseAlone() {
        Trial.of(STREET, "m0>1m1>2x0").tells("dead(0)", 1, 2).tells("dead(1)", 0, 0);
    }

    static void promise30_copiesToo() {
        Trial.of(STREET, "m0>1c0>3x0c0>0c2>0").tells("dead(0)", 4, 1 + 2 + 8);
    }

    static void promise30_personsWhoHoldOneOnce() {
        Trial.of(STREET, "m0>1m0>1m0>1x0").tells("dead(0)", 3, 2);
    }

    static void promise30_underPotsAndInsideNobodyHolds() {
        Trial.of(STREET, "m0>1m0>2m0>3x0l0@1i1@2").tells("dead(0)", 3, 8).years("g0>0")
            .tells("dead(0)", 3, 1 + 8);
    }

    static void promise30_allKeys() {
        Trial.of(STREET, "m0>1".repeat(24), "x0").tells("dead(0)", 24, 2);
    }

    static void promise30_noSuchHouse() {
        Trial.of(STREET, "m0>1").takes("dead(#)", 0, 2);
    }

    static void promise30_noHouses() {
        new Trial().refuses("dead(0)", BAD);
        Trial.of("p-:1").refuses("dead(0)", BAD);
    }

    // ---- 31 lost

    static void promise31_anEmptyRing() {
        Trial.of(STREET).row(0, 5, 6).tells("lost(0, 0)", 0, 0).rowIs(0).says("count(6)", 1);
        Trial.of("p-:1").tells("lost(0, 5)", 0, 0).rowIs(5).says("count(6)", 1);
    }

    static void promise31_allDoors() {
        Trial t = Trial.of("h99h99h99h99h99h99p-:1", "m5>0m4>0m3>0m2>0m1>0m0>0m0>0").tells("lost(0, 0)", 6, 594);
        t.rowIs(0, 0, 1, 2, 3, 4, 5);
    }

    static void promise31_byMostRiskFirst() {
        // INSIDE 2 lies a KEY of 1: RISKS 1, 1, 2, against costs and numbers.
        Trial.of("h1h2h99p0:1", "m0>0m1>0m2>0m1>0i3@2").tells("lost(0, 0)", 3, 102).rowIs(0, 2, 0, 1);
    }

    static void promise31_thenByLeastCost() {
        Trial.of("h3h1h2h0p0:1", "m0>0m1>0m2>0m3>0").tells("lost(0, 0)", 4, 6).rowIs(0, 3, 1, 2, 0);
    }

    static void promise31_thenByNumber() {
        Trial.of("h2h1h2h1p0:1", "m3>0m2>0m1>0m0>0").tells("lost(0, 0)", 4, 6).rowIs(0, 1, 3, 0, 2);
        // The same where RISKS above 1 are alike: INSIDE 0 and 2 lies a KEY of 3.
        Trial.of("h2h1h2h1p0:1", "m2>0m1>0m0>0m3>0i3@2m3>0i4@0").tells("lost(0, 0)", 3, 5).rowIs(0, 0, 2, 1);
    }

    static void promise31_aHouseOnceForSeveralKeys() {
        Trial.of(STREET, "m0>0m0>0c0>0").tells("lost(0, 0)", 1, 7).rowIs(0, 0);
    }

    static void promise31_theRowIsAnew() {
        Trial.of(STREET, "m1>3").says("row(2, 40)", 40).tells("lay(2, 0, 9)", 0).tells("lost(3, 2)", 1, 8)
            .rowIs(2, 1);
    }

    static void promise31_theRingIsStillHeld() {
        Trial.of(STREET, "m1>3").tells("lost(3, 2)", 1, 8).tells("person(3, 2)", 1).tells("lost(3, 2)", 1, 8);
    }

    static void promise31_noSuchPersonOrRow() {
        Trial.of(STREET, "m0>0").takes("lost(#, 0)", 0, 3).takes("lost(0, #)", 0, 5);
    }

    static void promise31_noPersons() {
        new Trial().refuses("lost(0, 0)", BAD);
        Trial.of("h1").refuses("lost(0, 0)", BAD);
    }
}
