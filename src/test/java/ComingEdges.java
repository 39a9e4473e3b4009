/** Promises 21 to 26: who comes in. */
final class ComingEdges {
    private static final int BAD = Trial.BAD, NONE = Trial.NONE;
    private static final String SIX = "h1h1h1h1h1h1";
    private static final String STREET = "h1h1h1p0:5p1:3p1:4p-:12";

    private ComingEdges() {
    }

    // ---- 21 alone

    static void promise21_toNoHouse() {
        Trial.of(STREET).says("alone(0)", 0).says("alone(3)", 0).years("m0>1").says("alone(0)", 0);
        Trial.of("p-:1").says("alone(0)", 0);
    }

    static void promise21_toAllHouses() {
        Trial.of(SIX + "p-:1", "m0>0m1>0m2>0m3>0m4>0m5>0").says("alone(0)", 63);
        // A chain of all six, down the street and up.
        Trial.of(SIX + "p-:1", "m0>0m1>0i1@0m2>0i2@1m3>0i3@2m4>0i4@3m5>0i5@4").says("alone(0)", 63);
        Trial.of(SIX + "p-:1", "m5>0m4>0i1@5m3>0i2@4m2>0i3@3m1>0i4@2m0>0i5@1").says("alone(0)", 63);
    }

    static void promise21_throughTheLastHouse() {
        Trial.of(SIX + "p-:1", "m4>0m5>0i1@4m0>0i2@5m3>0i3@0").says("alone(0)", 16 + 32 + 1 + 8);
    }

    static void promise21_byPotsEverywhere() {
        Trial.of(STREET, "m0>1l0@2m2>1l1@0").says("alone(0)", 1 + 4).says("alone(3)", 1 + 4);
    }

    static void promise21_housesThatLockOneAnotherIn() {
        Trial.of(STREET, "m0>0i0@1m1>0i1@0").says("alone(0)", 0).years("m1>0").says("alone(0)", 3);
    }

    static void promise21_noSuchPerson() {
        Trial.of(STREET).takes("alone(#)", 0, 3);
        Trial.of("p-:1".repeat(12)).takes("alone(#)", 0, 11);
    }

    static void promise21_noPersons() {
        new Trial().refuses("alone(0)", BAD);
        Trial.of("h1").refuses("alone(0)", BAD);
    }

    // ---- 22 wake

    static void promise22_nobodyIsTheFewest() {
        Trial.of(STREET, "m2>1l0@0").tells("house(0, 0)", 1).tells("wake(0, 2, false)", 0, 0);
        Trial.of(STREET, "m2>0").tells("house(0, 0)", 1).tells("wake(0, 2, true)", 0, 0);
    }

    static void promise22_whatHeHimselfHolds() {
        Trial t = Trial.of(STREET, "m2>1").tells("wake(1, 2, true)", 0, 0).says("wake(1, 2, false)", NONE);
        t.tells("wake(0, 2, true)", 1, 2).tells("wake(3, 2, true)", 1, 2);
    }

    static void promise22_theFirstByBits() {
        // 1 and 2 hold a KEY of 0; then 2 alone; then 2 holds that of 2, in which lies one of 0.
        Trial t = Trial.of(STREET, "m0>2m0>1").tells("wake(0, 0, false)", 1, 2);
        t.years("l1@0x0m0>2").tells("wake(0, 0, false)", 1, 4);
        t.years("x0m2>2m0>2i4@2").tells("wake(0, 0, false)", 1, 4);
        // All of HOUSE 1 open it: the first who can be woken.
        t.tells("wake(0, 1, false)", 1, 2).years("q1/0").tells("wake(0, 1, false)", 1, 4);
    }

    static void promise22_neverMoreThanOneIsNeeded() {
        // Each of the two leads to a HOUSE with a KEY of 0: the first does it.
        Trial t = Trial.of(SIX + "p0:1p1:1p2:1", "m3>2m4>1m0>0i2@3m0>0i3@4").tells("wake(0, 0, false)", 1, 2);
        t.years("i3@5").tells("wake(0, 0, false)", 1, 4);
    }

    static void promise22_noneWhoeverWakes() {
        Trial t = Trial.of(STREET).tells("house(0, 0)", 1).refuses("wake(0, 0, false)", NONE);
        t.refuses("wake(0, 2, false)", NONE).years("m2>3").refuses("wake(0, 2, true)", NONE);
        t.years("m2>2x2").refuses("wake(0, 2, true)", NONE).years("m2>2q2/0").refuses("wake(0, 2, true)", NONE);
    }

    static void promise22_whoNeverAnswersCanBeWoken() {
        Trial.of("h1h1p0:1p1:0", "m0>1").tells("wake(0, 0, false)", 1, 2);
    }

    static void promise22_noSuchPersonOrHouse() {
        Trial.of(STREET, "m0>1").takes("wake(#, 0, true)", 0, 3).takes("wake(0, #, false)", 0, 2);
    }

    static void promise22_noHousesNoPersons() {
        new Trial().refuses("wake(0, 0, true)", BAD);
        Trial.of("p-:1").refuses("wake(0, 0, true)", BAD);
        Trial.of("h1").refuses("wake(0, 0, false)", BAD);
    }

    // ---- 23 odds

    static void promise23_howManyHeCanWake() {
        Trial t = Trial.of(STREET).says("odds(0, 0, false)", 2).says("odds(1, 0, false)", 2)
            .says("odds(3, 0, false)", 3);
        t.years("q1/0").says("odds(0, 0, false)", 1).years("q2/0").says("odds(0, 0, false)", 0);
        Trial.of("h1p-:1p-:1").says("odds(0, 0, false)", 0);
        Trial.of("h1" + "p0:1".repeat(12)).says("odds(11, 0, false)", 11);
        Trial.of("h1" + "p0:1".repeat(11) + "p-:1").says("odds(11, 0, true)", 11);
    }

    static void promise23_noughtIfHeNeverComesIn() {
        Trial.of(STREET).odds("odds(0, 2, true)", 2, 0, 1).odds("odds(3, 2, true)", 3, 0, 1);
    }

    static void promise23_oneIfHeAlwaysComesIn() {
        Trial.of(STREET, "m2>0").odds("odds(0, 2, true)", 2, 1, 1).odds("odds(0, 2, false)", 2, 0, 1);
        Trial.of("h1h1p0:0p1:0p1:12", "m0>2").odds("odds(0, 0, false)", 2, 1, 1);
    }

    static void promise23_whatHeHimselfHolds() {
        Trial t = Trial.of(STREET, "m2>1").odds("odds(1, 2, true)", 2, 1, 1).odds("odds(1, 2, false)", 2, 0, 1);
        t.odds("odds(0, 2, true)", 2, 1, 4);
    }

    static void promise23_allOfTheseWhoDoAreWoken() {
        // To HOUSE 1 both lead who live there: 1 - 9/12 8/12.
        Trial.of(STREET).odds("odds(0, 1, false)", 2, 1, 2).odds("odds(3, 1, false)", 3, 1, 2);
        // To 0 by 0 himself or by the KEY of 2: 1 - 7/12 8/12 = 11/18
        Trial.of(STREET, "m0>2").odds("odds(3, 0, false)", 3, 11, 18);
    }

    static void promise23_ofElevenWhoAnswerBy11() {
        Trial t = Trial.of("h1" + "p0:11".repeat(12));
        t.odds("odds(0, 0, false)", 11, 743008370687L, 743008370688L);
    }

    static void promise23_isNotAsked() {
        Trial.of(STREET).tells("house(1, 3)", 6).tells("odds(0, 1, false)", 2, 6);
    }

    static void promise23_noSuchPersonOrHouse() {
        Trial t = Trial.of(STREET, "m0>1").odds("odds(0, 0, false)", 2, 1, 4);
        t.takes("odds(#, 0, true)", 0, 3).takes("odds(0, #, false)", 0, 2);
    }

    static void promise23_noHousesNoPersons() {
        new Trial().refuses("odds(0, 0, true)", BAD);
        Trial.of("p-:1").refuses("odds(0, 0, true)", BAD);
        Trial.of("h1").refuses("odds(0, 0, false)", BAD);
    }

    // ---- 24 soonest

    static void promise24_atOnce() {
        Trial.of("h1p0:1", "m0>0").says("soonest(0, 0, true)", 1);
        Trial.of("h1p-:1", "m0>0").says("soonest(0, 0, true)", 1);
    }

    static void promise24_heIsOutAgainNotHome() {
        Trial.of(SIX + "p0:1", "m5>0").says("soonest(0, 5, true)", 6).says("round(0, 32, true)", 11);
    }

    static void promise24_theQuickerOfTwoWays() {
        // The pot of 3 (3 there, 1 look, 3 back, 1 in) or who lives in 1 (1, 1, 1, 1).
        Trial t = Trial.of(SIX + "p0:1p1:1", "m0>0l0@3").says("soonest(0, 0, false)", 8);
        t.years("m0>1").says("soonest(0, 0, false)", 4).years("q1/0").says("soonest(0, 0, false)", 8);
    }

    static void promise24_byTheLastPersonAndTheLastHouse() {
        Trial.of("h1h1" + "p0:0".repeat(11) + "p1:0", "m0>11").says("soonest(0, 1, false)", 3);
        Trial t = Trial.of(SIX + "p5:0p-:0", "m5>0l0@5").says("soonest(0, 5, false)", 2)
            .says("soonest(1, 5, false)", 7);
        t.years("g0>1").says("soonest(0, 5, false)", NONE).says("soonest(1, 5, true)", 6);
    }

    static void promise24_upAndDownTheStreet() {
        // From 2: look at 0 for a KEY of 5, INSIDE which lies that of 2.
        Trial.of(SIX + "p2:1", "m5>0l0@0m2>0i1@5").says("soonest(0, 2, false)", 2 + 1 + 5 + 1 + 3 + 1);
    }

    static void promise24_throughAllSixHouses() {
        // Pot 0 has the KEY of 5, in 5 lies that of 0, in 0 that of 4, in 4 that of 1, in 1 that of 3, in 3 that of 2.
        String years = "m5>0l0@0m0>0i1@5m4>0i2@0m1>0i3@4m3>0i4@1m2>0i5@3";
        Trial t = Trial.of(SIX + "p-:1", years);
        t.says("soonest(0, 2, false)", 1 + 5 + 1 + 5 + 1 + 4 + 1 + 3 + 1 + 2 + 1 + 1 + 1);
        t.says("round(0, 63, false)", 1 + 5 + 1 + 5 + 1 + 4 + 1 + 3 + 1 + 2 + 1 + 1 + 1 + 2);
    }

    static void promise24_none() {
        Trial t = Trial.of(STREET).tells("house(1, 3)", 6).refuses("soonest(0, 0, true)", NONE);
        t.refuses("soonest(0, 2, false)", NONE).years("m2>0").refuses("soonest(0, 2, false)", NONE);
    }

    static void promise24_noSuchPersonOrHouse() {
        Trial.of(STREET, "m0>1").takes("soonest(#, 0, true)", 0, 3).takes("soonest(0, #, false)", 0, 2);
    }

    static void promise24_noHousesNoPersons() {
        new Trial().refuses("soonest(0, 0, true)", BAD);
        Trial.of("p-:1").refuses("soonest(0, 0, true)", BAD);
        Trial.of("h1").refuses("soonest(0, 0, false)", BAD);
    }

    // ---- 25 round

    static void promise25_ofTheEmptySet() {
        Trial.of(STREET).says("round(0, 0, true)", 0).says("round(1, 0, false)", 0).says("round(3, 0, true)", 0);
        Trial.of("p-:1").says("round(0, 0, true)", 0);
    }

    static void promise25_ofAllHouses() {
        // From 2 down to 0, up to 5 and back: 10 minutes on foot, 6 in HOUSES.
        Trial.of(SIX + "p2:1", "m0>0m1>0m2>0m3>0m4>0m5>0").says("round(0, 63, true)", 16)
            .says("round(0, 63, false)", NONE);
    }

    static void promise25_wakingInAllHouses() {
        // 10 minutes on foot, a look ahead of each HOUSE and a minute in it.
        String all = "p0:0p1:0p2:0p3:0p4:0p5:0";
        Trial.of(SIX + all + "p2:0", "").says("round(6, 63, false)", 22);
        Trial.of(SIX + all + "p-:0", "").says("round(6, 63, false)", 22);
        Trial.of(SIX + all, "").says("round(5, 63, false)", NONE).says("round(5, 31, false)", 20);
    }

    static void promise25_standsWhereHeBegan() {
        Trial.of(SIX + "p3:1p-:1", "m0>0m5>0m5>1").says("round(0, 1, true)", 3 + 1 + 3)
            .says("round(0, 33, true)", 3 + 5 + 2 + 2)
            .says("round(1, 32, true)", 5 + 1 + 5);
    }

    static void promise25_whatHeHimselfHolds() {
        Trial t = Trial.of(STREET, "m2>1m0>0").says("round(1, 4, true)", 3).says("round(1, 4, false)", NONE);
        t.says("round(0, 4, true)", 1 + 1 + 1 + 1 + 2).says("round(1, 1, true)", 1 + 1 + 1 + 1);
    }

    static void promise25_justTheHousesOfTheSet() {
        Trial.of(SIX + "p0:1", "m0>0m1>0m2>0").says("round(0, 4, true)", 5).says("round(0, 5, true)", 6)
            .says("round(0, 2, true)", 3);
    }

    static void promise25_noneIfOneOfThemIsNot() {
        Trial.of(SIX + "p0:1", "m0>0m1>0").refuses("round(0, 4, true)", NONE).refuses("round(0, 7, true)", NONE)
            .says("round(0, 3, true)", 4);
    }

    static void promise25_aSetWithAHouseThatIsNone() {
        Trial.of(STREET, "m0>0").takes("round(0, #, true)", 0, 7).refuses("round(0, 9, true)", BAD);
        Trial.of(SIX + "p0:1").takes("round(0, #, true)", 0, 63);
        Trial.of("p-:1").takes("round(0, #, true)", 0, 0);
    }

    static void promise25_noSuchPerson() {
        Trial.of(STREET, "m0>1").takes("round(#, 0, true)", 0, 3);
        new Trial().refuses("round(0, 0, true)", BAD);
        Trial.of("h1").refuses("round(0, 0, true)", BAD);
    }

    // ---- 26 stuck

    static void promise26_noHouses() {
        new Trial().tells("stuck()", 0, 0);
        Trial.of("p-:1").tells("stuck()", 0, 0);
    }

    static void promise26_withoutAnyKey() {
        Trial.of("h1").tells("stuck()", 1, 1);
        Trial.of(SIX + "p0:1").tells("stuck()", 63, 63);
    }

    static void promise26_withADeadKeyAlone() {
        Trial.of("h1p0:1", "m0>0").tells("stuck()", 0, 0).years("x0").tells("stuck()", 1, 1).years("i0@0")
            .tells("stuck()", 1, 1);
    }

    static void promise26_itsKeyIsInsideItself() {
        Trial.of("h1p0:1", "m0>0i0@0").tells("stuck()", 1, 0).years("m0>0").tells("stuck()", 0, 0);
    }

    static void promise26_theyLockOneAnotherIn() {
        Trial t = Trial.of("h1h1h1p0:1", "m0>0i0@1m1>0i1@0").tells("stuck()", 7, 4).years("l1@2")
            .tells("stuck()", 4, 4);
        t.years("i1@0m2>0i2@2").tells("stuck()", 7, 0).years("g0>0").tells("stuck()", 4, 0);
    }

    static void promise26_comesOnFromThese() {
        Trial.of("h1h1h1p0:1", "m0>0m1>0i1@0m2>0i2@1").tells("stuck()", 0, 0).years("x1")
            .tells("stuck()", 6, 2);
    }

    static void promise26_keysOfAllPersonsAndPots() {
        Trial.of("h1h1h1p0:1p-:1", "m0>0m1>1m2>0l2@0").tells("stuck()", 0, 0);
    }
}
