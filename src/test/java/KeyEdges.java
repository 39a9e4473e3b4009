/** 'Terms' 2 and 3: LIVE and DEAD, COMING, WAKING, WAYS, HELP, PLANS, SUSPECTS, RINGS. */
final class KeyEdges {
    private static final int NONE = Trial.NONE;
    private static final String SIX = "h1h1h1h1h1h1";
    private static final String THREE = "h1h1h1p0:1p1:1p2:1";

    private KeyEdges() {
    }

    // ---- 2 KEYS

    static void terms2_aKeyIsLiveForTheLockThatItsHouseHas() {
        Trial t = Trial.of("h1h1p0:1", "m0>0m1>0").tells("key(0, 1)", 1).tells("key(1, 1)", 1);
        t.years("x0").tells("key(0, 1)", 0).tells("key(1, 1)", 1);
        t.years("m0>0").tells("key(2, 1)", 1).tells("key(0, 1)", 0);
        t.years("x0").tells("key(2, 1)", 0).tells("key(0, 1)", 0).says("count(3)", 1);
    }

    static void terms2_aCopyIsForTheLockOfItsKey() {
        // A COPY of a DEAD KEY is DEAD, though it comes behind the change; one of a LIVE KEY dies with it.
        Trial t = Trial.of("h1p0:1", "m0>0x0c0>0").tells("key(1, 1)", 0).tells("key(1, 0)", 0);
        t.years("c1>0").tells("key(2, 1)", 0);
        t.years("m0>0c3>0c4>0").tells("key(4, 1)", 1).tells("key(5, 1)", 1);
        t.years("x0").tells("key(4, 1)", 0).tells("key(5, 1)", 0).says("count(3)", 0);
    }

    static void terms2_aCopyIsNotOfWhoHolds() {
        // KEYS under a pot, INSIDE a HOUSE or of others can be copied, too, and stay where they are.
        Trial t = Trial.of("h1p0:1p0:1", "m0>0l0@0c0>1i0@0c0>1");
        t.says("count(3)", 3).tells("key(0, 2)", 2).tells("person(1, 2)", 2 + 4);
    }

    static void terms2_aKeyIsInJustOnePlace() {
        Trial t = Trial.of("h1h1p0:1p1:1", "m0>0").tells("key(0, 2)", 0).tells("key(0, 3)", 0).tells("person(0, 2)", 1);
        t.years("g0>1").tells("key(0, 2)", 0).tells("key(0, 3)", 1).tells("person(0, 2)", 0).tells("person(1, 2)", 1);
        t.years("l0@1").tells("key(0, 2)", 1).tells("key(0, 3)", 1).tells("person(1, 2)", 0);
        t.years("i0@0").tells("key(0, 2)", 2).tells("key(0, 3)", 0);
        t.years("g0>0").tells("key(0, 2)", 0).tells("key(0, 3)", 0).tells("person(0, 2)", 1);
    }

    static void terms2_passedAreAllWhoEverHeldIt() {
        Trial t = Trial.of("h1p0:1p0:1p0:1p0:1", "m0>1").tells("key(0, 4)", 2);
        t.years("g0>3l0@0").tells("key(0, 4)", 2 + 8).years("i0@0g0>0").tells("key(0, 4)", 1 + 2 + 8);
        t.years("g0>1").tells("key(0, 4)", 1 + 2 + 8);
        // A COPY has PASSED nobody but who is given it, and its KEY not him.
        t.years("c0>2").tells("key(1, 4)", 4).tells("key(0, 4)", 1 + 2 + 8);
    }

    static void terms2_trustIs0AtFirst() {
        Trial t = Trial.of("h1p0:1p0:1p-:1");
        for (int a = 0; a < 3; a++) {
            for (int b = 0; b < 3; b++) {
                if (a != b) {
                    t.tells("trust(" + a + ", " + b + ")", 0);
                }
            }
        }
    }

    // ---- 2 COMING

    static void terms2_aHouseIsOpenByALiveKeyAlone() {
        Trial.of("h1p0:1", "m0>0").says("alone(0)", 1).years("x0").says("alone(0)", 0).years("m0>0")
            .says("alone(0)", 1);
    }

    static void terms2_oneHasAllKeysInsideOpenHouses() {
        // 5 opens 4, 4 opens 3 and 0, 0 opens 2; 1 is locked.
        Trial t = Trial.of(SIX + "p-:1", "m5>0m4>0i1@5m3>0i2@4m0>0i3@4m2>0i4@0m1>0i5@1");
        t.says("alone(0)", 63 - 2);
        t.years("x4").says("alone(0)", 32);
    }

    static void terms2_deadKeysInsideOpenNothing() {
        Trial.of("h1h1p-:1", "m0>0m1>0i1@0").says("alone(0)", 3).years("x1").says("alone(0)", 1);
    }

    static void terms2_aloneIsFromWhatHeHoldsAndAllPots() {
        Trial t = Trial.of("h1h1h1p0:1p1:1", "m0>0m1>1m2>1l2@0").says("alone(0)", 1 + 4).says("alone(1)", 2 + 4);
        t.years("l0@2").says("alone(0)", 1 + 4).says("alone(1)", 1 + 2 + 4);
    }

    static void terms2_whoLivesThereDoesNotComeByThat() {
        Trial.of("h1p0:12").says("alone(0)", 0).says("wake(0, 0, true)", NONE).says("soonest(0, 0, true)", NONE);
    }

    // ---- 2 LOCKED OUT

    static void terms2_lockedOutHeHasNothingWithHim() {
        Trial t = Trial.of("h1p0:1", "m0>0");
        t.says("wake(0, 0, false)", NONE).tells("wake(0, 0, true)", 0, 0);
        t.odds("odds(0, 0, false)", 0, 0, 1).odds("odds(0, 0, true)", 0, 1, 1);
        t.says("soonest(0, 0, false)", NONE).says("soonest(0, 0, true)", 1);
        t.says("round(0, 1, false)", NONE).says("round(0, 1, true)", 1);
    }

    static void terms2_lockedOutHeHasKeysUnderPots() {
        Trial t = Trial.of("h1h1p0:1", "m0>0l0@1").tells("wake(0, 0, false)", 0, 0).odds("odds(0, 0, false)", 0, 1, 1);
        t.years("i0@1").says("wake(0, 0, false)", NONE).odds("odds(0, 0, false)", 0, 0, 1);
    }

    static void terms2_heCantWakeHimself() {
        Trial.of("h1p0:12", "m0>0").says("wake(0, 0, false)", NONE).odds("odds(0, 0, false)", 0, 0, 1);
        Trial.of("h1p0:12p0:12", "m0>0").tells("wake(0, 0, false)", 1, 2).tells("wake(1, 0, false)", 1, 1);
    }

    static void terms2_thoseElsewhereAreNotWoken() {
        Trial t = Trial.of("h1p0:1p-:12", "m0>1").says("wake(0, 0, false)", NONE).odds("odds(0, 0, false)", 0, 0, 1);
        t.says("soonest(0, 0, false)", NONE);
        // But one who lives elsewhere can wake others.
        t.tells("wake(1, 0, false)", 1, 1).odds("odds(1, 0, false)", 1, 1, 12).says("soonest(1, 0, false)", 2);
    }

    static void terms2_trustInHimIs0AtLeast() {
        // TRUST of 1 in 0 is what counts: -1 is too little, 0 enough; that of 0 in 1 does not matter.
        Trial t = Trial.of("h1h1p0:1p1:6", "m0>1q0/1q0/1q0/1").tells("wake(0, 0, false)", 1, 2);
        t.odds("odds(0, 0, false)", 1, 1, 2).says("soonest(0, 0, false)", 4);
        t.years("q1/0").says("wake(0, 0, false)", NONE).odds("odds(0, 0, false)", 0, 0, 1)
            .says("soonest(0, 0, false)", NONE);
        t.years("f1/0").tells("wake(0, 0, false)", 1, 2).odds("odds(0, 0, false)", 1, 1, 2)
            .says("soonest(0, 0, false)", 4);
        t.years("f1/0").tells("wake(0, 0, false)", 1, 2);
    }

    static void terms2_wokenHandOverAndTheirHouseIsOpen() {
        // 1 lives in 1 without any key; in 1 lies one of 0.
        Trial t = Trial.of("h1h1h1p0:1p1:6", "m0>0i0@1").tells("wake(0, 1, false)", 1, 2);
        t.tells("wake(0, 0, false)", 1, 2).odds("odds(0, 0, false)", 1, 1, 2).says("wake(0, 2, false)", NONE);
        t.years("m2>1").tells("wake(0, 2, false)", 1, 2).odds("odds(0, 2, false)", 1, 1, 2);
    }

    // ---- 2 ODDS

    static void terms2_oddsEachAnswersWhateverOthersDo() {
        // 1 - 9/12 8/12 = 1/2, though 3 who has no key is counted among those whom he can wake.
        Trial.of("h1h1p0:1p1:3p1:4p1:12", "m0>1m0>2").odds("odds(0, 0, false)", 3, 1, 2);
        // 1 - 11/12 11/12
        Trial.of("h1h1p0:1p1:1p1:1", "m0>1m0>2").odds("odds(0, 0, false)", 2, 23, 144);
    }

    static void terms2_oddsOfElevenWhoCouldBeWoken() {
        Trial t = Trial.of("h1" + "p0:5".repeat(12));
        // 1 - 7/12 to the eleventh: 12 to the eleventh is 743008370688, 7 to it 1977326743
        t.odds("odds(0, 0, false)", 11, 743008370688L - 1977326743L, 743008370688L);
    }

    // ---- 2 WAYS

    static void terms2_wayBeginsAheadOfHisHouse() {
        for (int h = 0; h < 6; h++) {
            Trial.of(SIX + "p" + h + ":1", "m" + h + ">0").says("soonest(0, " + h + ", true)", 1);
            Trial.of(SIX + "p" + h + ":1", "m0>0").says("soonest(0, 0, true)", h + 1);
        }
    }

    static void terms2_wayBeginsAtHouse0IfHeLivesElsewhere() {
        for (int h = 0; h < 6; h++) {
            Trial t = Trial.of(SIX + "p-:1", "m" + h + ">0").says("soonest(0, " + h + ", true)", h + 1);
            t.says("round(0, " + (1 << h) + ", true)", 2 * h + 1);
        }
    }

    static void terms2_housesStandInARowNotInARing() {
        Trial.of(SIX + "p0:1p5:1", "m5>0m0>1").says("soonest(0, 5, true)", 6).says("soonest(1, 0, true)", 6);
    }

    static void terms2_heLooksInAMinute() {
        Trial.of(SIX + "p0:1", "m0>0l0@0").says("soonest(0, 0, false)", 2).says("round(0, 1, false)", 2);
        // there 2, look 1, back 2, in 1
        Trial.of(SIX + "p0:1", "m0>0l0@2").says("soonest(0, 0, false)", 6);
    }

    static void terms2_aPotIsSeenJustAheadOfItsHouse() {
        // Passing HOUSE 1 without a look does not do: 1 there, 1 look, 1 on, 1 in.
        Trial.of(SIX + "p0:1", "m2>0l0@1").says("soonest(0, 2, false)", 4);
    }

    static void terms2_onTheWayAllAnswer() {
        // 1 there, 1 look, 1 in; with his key 1 back, 1 in.
        Trial t = Trial.of(SIX + "p0:0p1:0", "m0>1").says("soonest(0, 1, false)", 3).says("soonest(0, 0, false)", 4);
        t.odds("odds(0, 0, false)", 1, 0, 1);
    }

    static void terms2_onTheWayAllThereAreWokenByOneLook() {
        // 1 there, 1 look for both keys, 1 on, 1 in 2, 2 back, 1 in 0
        Trial.of(SIX + "p0:0p1:0p1:0", "m0>1m2>2").says("round(0, 5, false)", 7);
    }

    static void terms2_severalWhoHandOverTheSameAreAsOne() {
        Trial t = Trial.of(SIX + "p0:0p1:0p1:0", "m0>1m0>2").says("soonest(0, 1, false)", 3)
            .says("soonest(0, 0, false)", 4);
        t.years("m0>0l2@1m1>0l3@1").says("soonest(0, 1, false)", 3).says("soonest(0, 0, false)", 4);
    }

    static void terms2_eachWayIsItsOwn() {
        // What a WAY found stays with it: the next one begins anew, by what is then.
        Trial t = Trial.of(SIX + "p0:1p0:1p-:1", "m0>2l0@0q1/0").says("soonest(0, 0, false)", 2);
        t.years("g0>2").says("soonest(0, 0, false)", NONE).says("soonest(1, 0, false)", 2)
            .says("soonest(0, 0, false)", NONE);
        t.years("i0@1m1>0").says("soonest(0, 0, true)", 4).years("g0>2").says("soonest(0, 0, true)", NONE);
        t.says("soonest(0, 1, true)", 2).says("soonest(0, 1, false)", NONE);
    }

    static void terms2_onTheWayThoseAreWokenWhomHeCanWake() {
        Trial t = Trial.of(SIX + "p0:0p1:0p1:0", "m0>1m2>2q1/0");
        t.says("soonest(0, 0, false)", NONE).says("soonest(0, 2, false)", 4).says("soonest(0, 1, false)", 3);
        t.years("q2/0").says("soonest(0, 2, false)", NONE).says("soonest(0, 1, false)", NONE);
    }

    static void terms2_keysInsideAreHadByGoingIn() {
        // 1 there, 1 in, 1 back, 1 in; a look is of no use.
        Trial.of(SIX + "p0:1", "m1>0m0>0i1@1").says("soonest(0, 0, true)", 4).says("soonest(0, 0, false)", NONE);
        // A HOUSE open by somebody WOKEN there: 1 there, 1 look, 1 in, 1 back, 1 in
        Trial.of(SIX + "p0:1p1:0", "m0>0i0@1").says("soonest(0, 0, false)", 5);
    }

    static void terms2_deadKeysOpenNothingOnTheWay() {
        Trial.of(SIX + "p0:1p1:0", "m0>0m0>1m0>1l2@0x0").says("soonest(0, 0, true)", NONE);
    }

    static void terms2_waitingBringsNothing() {
        Trial.of(SIX + "p0:1", "m0>0i0@0").says("soonest(0, 0, true)", NONE).says("round(0, 1, true)", NONE);
    }

    // ---- 3 HELP

    static void terms3_aHouseHelpsIfSomebodyLivesInIt() {
        Trial.of(THREE).says("safe(1, 2, 0)", 6);
        // HOUSE 0 is empty: it can't be given a KEY, and needs none.
        Trial t = Trial.of("h1h1h1h1p1:1p2:1p3:1");
        t.says("safe(1, 2, 0)", 6).rowIs(0, 1, 2, 1, 3, 2, 1, 2, 3, 3, 1, 3, 2);
        Trial.of("h1h1h1p0:1p1:1p-:1").says("safe(1, 9, 0)", NONE);
    }

    static void terms3_noHelpWithTrustBelow0EitherWay() {
        for (String q : new String[] {"q0/1", "q1/0", "q2/1", "q1/2", "q0/2", "q2/0"}) {
            Trial.of(THREE, q).says("safe(1, 9, 0)", NONE);
            Trial.of(THREE, q, q.replace('q', 'f')).says("safe(1, 9, 0)", 6);
        }
        Trial.of(THREE, "f0/1f1/2f2/0").says("safe(1, 9, 0)", 6);
        // Both ways at once, too.
        Trial.of(THREE, "q0/1q1/0").says("safe(1, 9, 0)", NONE);
        Trial.of(THREE + "p1:1", "q0/1q0/3q1/0q3/0").says("safe(1, 9, 0)", NONE);
    }

    static void terms3_oneOfSeveralIsEnoughNotToHelp() {
        Trial t = Trial.of(THREE + "p2:1").says("safe(1, 9, 0)", 6).years("q3/0").says("safe(1, 9, 0)", NONE);
        t.says("back(0)", 1).years("q1/3").says("safe(1, 9, 0)", NONE);
    }

    static void terms3_trustWithinAHouseAndElsewhereDoesNotMatter() {
        Trial.of(THREE + "p2:1p-:1", "q2/3q3/2q4/0q0/4q4/3").says("safe(1, 2, 0)", 6);
    }

    static void terms3_aHouseHasAKeyByWhoLivesThereAndHolds() {
        Trial.of(THREE, "m0>1").says("safe(1, 2, 0)", 5).rowIs(0, 0, 2, 1, 0, 1, 2, 2, 0, 2, 1);
        Trial.of(THREE, "m0>1l0@1").says("safe(1, 2, 0)", 6);
        Trial.of(THREE, "m0>1i0@1").says("safe(1, 2, 0)", 6);
        Trial.of(THREE, "m0>1g0>0").says("safe(1, 2, 0)", 6);
        Trial.of(THREE + "p-:1", "m0>3").says("safe(1, 2, 0)", 6);
    }

    static void terms3_aHouseHasALiveKey() {
        Trial.of(THREE, "m0>1x0").says("safe(1, 2, 0)", 6);
        Trial.of(THREE, "m0>1x0m0>1").says("safe(1, 2, 0)", 5);
    }

    static void terms3_severalKeysInAHouseAreAsOne() {
        Trial.of(THREE + "p1:1", "m0>1m0>1m0>3").says("safe(1, 2, 0)", 5);
    }

    static void terms3_whoeverOfAHouseHoldsOneItHasAKey() {
        Trial.of(THREE + "p1:1", "m0>1").says("safe(1, 2, 0)", 5);
        Trial.of(THREE + "p1:1", "m0>3").says("safe(1, 2, 0)", 5);
        Trial.of(THREE + "p1:1", "m0>1m2>3").says("safe(1, 2, 0)", 4).rowIs(0, 0, 2, 1, 0, 1, 2, 2, 0);
        Trial.of(THREE + "p1:1", "m0>3m2>1").says("safe(1, 2, 0)", 4).rowIs(0, 0, 2, 1, 0, 1, 2, 2, 0);
    }

    static void terms3_aKeyOfItsOwnIsNoneOfAnother() {
        Trial.of(THREE, "m0>0m1>1m2>2").says("safe(1, 2, 0)", 6);
    }

    static void terms3_aHouseThatHasAKeyButDoesNotHelpIsNotCounted() {
        // 1 has a KEY of 0, but does not help: 0 needs both 2 and 3, and 1 as well.
        Trial t = Trial.of("h1" + THREE + "p3:1", "m0>1q0/1");
        t.says("safe(1, 2, 0)", 8).rowIs(0, 0, 2, 0, 3, 1, 2, 1, 3, 2, 0, 2, 1, 3, 0, 3, 1);
    }

    // ---- 3 SAFE, PLANS

    static void terms3_safeFrom1NeedsTwoOthers() {
        Trial.of("h1h1p0:1p1:1").says("safe(1, 9, 0)", NONE);
        Trial.of(THREE).says("safe(1, 9, 0)", 6);
    }

    static void terms3_safeFrom2NeedsThreeOthers() {
        Trial.of(THREE).says("safe(2, 9, 0)", NONE);
        Trial.of("h1" + THREE + "p3:1").says("safe(2, 9, 0)", 12);
    }

    static void terms3_justAsManyAsAreNeeded() {
        // Of 0 all others have a KEY already, more than needed: the rest needs just its own two.
        Trial t = Trial.of("h1" + THREE + "p3:1", "m0>1m0>2m0>3").says("safe(1, 9, 0)", 6);
        t.rowIs(0, 1, 0, 1, 2, 2, 0, 2, 1, 3, 0, 3, 1);
    }

    static void terms3_noKeyIsGivenToWhoHasOne() {
        Trial.of("h1" + THREE + "p3:1", "m0>1").says("safe(1, 9, 0)", 7)
            .rowIs(0, 0, 2, 1, 0, 1, 2, 2, 0, 2, 1, 3, 0, 3, 1);
    }

    static void terms3_eachHouseMNewOnesAtMost() {
        Trial.of(THREE).says("safe(1, 1, 0)", NONE).says("safe(1, 2, 0)", 6);
        // What each has already is not among its new ones.
        Trial.of(THREE, "m0>1m1>2m2>0").says("safe(1, 1, 0)", 3).rowIs(0, 0, 2, 1, 0, 2, 1);
        Trial.of(THREE, "m0>1m1>2m2>0").says("safe(1, 0, 0)", NONE);
    }

    static void terms3_plansByTheSetsOfHouse0Then1() {
        // By hand: behind 0 (1, 2) and 1 (0, 2) nobody would be left for 3, so 1 takes (0, 3).
        Trial t = Trial.of("h1" + THREE + "p3:1").says("safe(1, 2, 0)", 8);
        t.rowIs(0, 0, 1, 0, 2, 1, 0, 1, 3, 2, 0, 2, 3, 3, 1, 3, 2);
        t.says("safe(1, 3, 0)", 8).rowIs(0, 0, 1, 0, 2, 1, 0, 1, 2, 2, 0, 2, 1, 3, 0, 3, 1);
    }

    static void terms3_eachPlanIsItsOwn() {
        String four = "h1" + THREE + "p3:1";
        Trial t = Trial.of(four).says("safe(1, 2, 0)", 8).years("q0/1q2/3").says("safe(1, 2, 0)", 8);
        t.rowIs(0, 0, 2, 0, 3, 1, 2, 1, 3, 2, 0, 2, 1, 3, 0, 3, 1).says("back(0)", 2).says("safe(1, 3, 0)", 8);
        t.rowIs(0, 0, 1, 0, 2, 1, 0, 1, 2, 2, 0, 2, 1, 3, 0, 3, 1);
        // As in promise 27's first plan that goes on, behind one by which all could be given to all.
        t = Trial.of(four).says("safe(1, 9, 0)", 8).years("m3>0m0>3m1>3m1>2m2>0m2>1q3/2").says("safe(1, 1, 0)", 2);
        t.rowIs(0, 0, 2, 3, 1);
        // HOUSE 3 and those who lived there are gone.
        t = Trial.of(four).says("safe(2, 9, 0)", 12).write(2, "h1" + THREE).says("street(2)", 4)
            .says("safe(1, 2, 0)", 6);
        t.rowIs(0, 0, 1, 0, 2, 1, 0, 1, 2, 2, 0, 2, 1);
    }

    // ---- 3 SUSPECTS, RINGS

    static void terms3_suspectsDoNotLiveThere() {
        Trial t = Trial.of("h1h1p0:1p0:1p1:1p-:1", "m0>0m0>1m0>2m0>3").tells("suspects(0)", 4 + 8, 4 + 8);
        t.tells("suspects(1)", 0, 0);
    }

    static void terms3_byCopiesOfEachLiveKeyThatPassed() {
        Trial t = Trial.of("h1h1p1:1p1:1p1:1", "m0>0g0>1g0>2").tells("suspects(0)", 4, 1 + 2 + 4);
        t.years("i0@1").tells("suspects(0)", 0, 1 + 2 + 4).years("x0").tells("suspects(0)", 0, 0);
        // By a COPY of the KEY of 1 he comes to that of 0 INSIDE it.
        t.years("m0>2i1@1m1>0g2>2").tells("suspects(0)", 4, 1 + 4);
    }

    static void terms3_aRingIsWhatHeHolds() {
        Trial t = Trial.of("h3h4h5p0:1p1:1", "m0>0m1>0m2>1").tells("lost(0, 0)", 2, 7).tells("lost(1, 0)", 1, 5);
        t.years("l0@0").tells("lost(0, 0)", 1, 4).years("i1@0").tells("lost(0, 0)", 0, 0);
    }

    static void terms3_itsFinderOpensJustWhatItHasALiveKeyOf() {
        // INSIDE 0 lies a KEY of 1, under a pot one of 2: neither door is changed for the RING.
        Trial t = Trial.of("h3h4h5p0:1", "m0>0m1>0i1@0m2>0l2@0").tells("lost(0, 0)", 1, 3).rowIs(0, 0);
        t.years("x0").tells("lost(0, 0)", 0, 0).rowIs(0);
    }

    static void terms3_riskIsWithoutPots() {
        // With the pot's KEY of 1, RISK of 0 would be 2 and 0 be first.
        Trial.of("h9h1p0:1", "m0>0m1>0m1>0l2@0").tells("lost(0, 0)", 2, 10).rowIs(0, 1, 0);
    }

    static void terms3_riskIsOfTheHouseAlone() {
        // With the rest of the RING both RISKS would be 3, and 0, that costs less, be first.
        Trial.of("h1h9h5p0:1", "m0>0m1>0m2>0i2@1").tells("lost(0, 0)", 2, 10).rowIs(0, 1, 0);
    }

    static void terms3_riskCountsAHouseOnceAndItself() {
        // INSIDE 0 lie two KEYS of 2 and one of 0: RISK 2; INSIDE 1 one of 2: RISK 2.
        Trial t = Trial.of("h1h2h3h4p0:1", "m0>0m1>0m2>0i2@0m2>0i3@0m0>0i4@0m2>0i5@1");
        t.tells("lost(0, 0)", 2, 3).rowIs(0, 0, 1);
        // By one more of 3 INSIDE 2, and another INSIDE 1, both RISKS are 3.
        t.years("m3>0i6@2m3>0i7@1").tells("lost(0, 0)", 2, 3).rowIs(0, 0, 1);
        // Those of 2 shut in 2 leave 0 a RISK of 1.
        t.years("i2@2i3@2").tells("lost(0, 0)", 2, 3).rowIs(0, 1, 0);
    }
}
