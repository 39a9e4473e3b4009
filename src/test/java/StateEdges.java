/** Promises 17 to 20: what a HOUSE, a PERSON, a KEY, TRUST is. */
final class StateEdges {
    private static final int BAD = Trial.BAD, NONE = Trial.NONE;
    private static final String STREET = "h99h0h5p0:12p2:0p-:3p0:7";

    private StateEdges() {
    }

    // ---- 17 house

    static void promise17_costs() {
        Trial.of(STREET, "x0x0").tells("house(0, 0)", 99).tells("house(1, 0)", 0).tells("house(2, 0)", 5);
    }

    static void promise17_howOftenItWasChanged() {
        Trial t = Trial.of(STREET).tells("house(0, 1)", 0).years("x0").tells("house(0, 1)", 1).tells("house(1, 1)", 0);
        t.years("x0".repeat(39)).tells("house(0, 1)", 40).says("back(0)", 40).tells("house(0, 1)", 0);
    }

    static void promise17_liveKeys() {
        Trial t = Trial.of(STREET).tells("house(0, 2)", 0).years("m0>0c0>1m1>0l1@2").tells("house(0, 2)", 3);
        t.tells("house(1, 2)", 4).years("x0").tells("house(0, 2)", 0).years("c0>0").tells("house(0, 2)", 0);
        t.years("m0>0").tells("house(0, 2)", 16);
    }

    static void promise17_allKeysAreLive() {
        Trial.of(STREET, "m0>0".repeat(24)).tells("house(0, 2)", (1 << 24) - 1).tells("house(1, 2)", 0);
    }

    static void promise17_personsWhoLiveThere() {
        Trial.of(STREET).tells("house(0, 3)", 1 + 8).tells("house(1, 3)", 0).tells("house(2, 3)", 2);
    }

    static void promise17_noSuchHouse() {
        Trial.of(STREET, "m0>0").takes("house(#, 0)", 0, 2).takes("house(#, 3)", 0, 2);
        Trial.of("h1h1h1h1h1h1").takes("house(#, 0)", 0, 5);
    }

    static void promise17_noHouses() {
        new Trial().refuses("house(0, 0)", BAD);
        Trial.of("p-:1").refuses("house(0, 3)", BAD).refuses("house(-1, 0)", BAD);
    }

    static void promise17_noSuchWhat() {
        Trial.of(STREET, "m0>0").takes("house(0, #)", 0, 3);
    }

    // ---- 18 person

    static void promise18_theHouseOrNone() {
        Trial.of(STREET).tells("person(0, 0)", 0).tells("person(1, 0)", 2).tells("person(2, 0)", NONE);
    }

    static void promise18_answers() {
        Trial.of(STREET).tells("person(0, 1)", 12).tells("person(1, 1)", 0).tells("person(2, 1)", 3)
            .tells("person(3, 1)", 7);
    }

    static void promise18_keysThatHeHoldsLiveOrDead() {
        Trial t = Trial.of(STREET).tells("person(0, 2)", 0).years("m0>0m1>0x0m2>1").tells("person(0, 2)", 3);
        t.tells("person(1, 2)", 4).years("g0>1l1@0").tells("person(0, 2)", 0).tells("person(1, 2)", 5);
        t.years("i2@2").tells("person(1, 2)", 1).tells("person(2, 2)", 0);
    }

    static void promise18_heHoldsAllKeys() {
        Trial.of(STREET, "m0>2".repeat(24)).tells("person(2, 2)", (1 << 24) - 1).tells("person(0, 2)", 0);
    }

    static void promise18_noSuchPerson() {
        Trial.of(STREET, "m0>0").takes("person(#, 0)", 0, 3).takes("person(#, 2)", 0, 3);
        Trial.of("p-:1".repeat(12)).takes("person(#, 1)", 0, 11);
    }

    static void promise18_noPersons() {
        new Trial().refuses("person(0, 0)", BAD);
        Trial.of("h1").refuses("person(0, 0)", BAD).refuses("person(-1, 0)", BAD);
    }

    static void promise18_noSuchWhat() {
        Trial.of(STREET, "m0>0").takes("person(0, #)", 0, 2);
    }

    // ---- 19 key

    static void promise19_itsHouse() {
        Trial.of(STREET, "m2>0c0>1m0>1x2").tells("key(0, 0)", 2).tells("key(1, 0)", 2).tells("key(2, 0)", 0);
        Trial.of(STREET, "m2>0m1>0c1>0c0>0").tells("key(2, 0)", 1).tells("key(3, 0)", 2);
    }

    static void promise19_whetherItIsLive() {
        Trial.of(STREET, "m2>0m0>0x2").tells("key(0, 1)", 0).tells("key(1, 1)", 1);
    }

    static void promise19_whereItIsAndByWhom() {
        Trial t = Trial.of(STREET, "m0>3").tells("key(0, 2)", 0).tells("key(0, 3)", 3).years("l0@2")
            .tells("key(0, 2)", 1);
        t.tells("key(0, 3)", 2).years("i0@1").tells("key(0, 2)", 2).tells("key(0, 3)", 1);
        t.years("l0@0").tells("key(0, 2)", 1).tells("key(0, 3)", 0).years("g0>0").tells("key(0, 2)", 0)
            .tells("key(0, 3)", 0);
    }

    static void promise19_eachKeyHasItsOwn() {
        Trial t = Trial.of(STREET, "m0>3m1>1m2>0l1@2").tells("key(0, 3)", 3).tells("key(1, 3)", 2)
            .tells("key(2, 3)", 0);
        t.tells("key(0, 2)", 0).tells("key(1, 2)", 1).tells("key(1, 4)", 2).tells("key(2, 4)", 1);
    }

    static void promise19_whomItPassed() {
        Trial t = Trial.of(STREET, "m0>3").tells("key(0, 4)", 8).years("l0@2i0@1").tells("key(0, 4)", 8);
        t.years("g0>0g0>3").tells("key(0, 4)", 9);
    }

    static void promise19_noSuchKey() {
        Trial.of(STREET, "m0>0c0>0").takes("key(#, 0)", 0, 1).takes("key(#, 4)", 0, 1);
        Trial.of(STREET, "m0>0".repeat(24)).takes("key(#, 1)", 0, 23);
        Trial.of(STREET, "m0>0c0>0").says("back(1)", 1).takes("key(#, 0)", 0, 0);
    }

    static void promise19_noKeys() {
        new Trial().refuses("key(0, 0)", BAD);
        Trial.of(STREET, "x0q0/1").refuses("key(0, 0)", BAD).refuses("key(-1, 0)", BAD);
    }

    static void promise19_noSuchWhat() {
        Trial.of(STREET, "m0>0").takes("key(0, #)", 0, 4);
    }

    // ---- 20 trust

    static void promise20_ofOneInTheOther() {
        Trial t = Trial.of(STREET, "q0/1f1/0f1/0q3/2").tells("trust(0, 1)", -1).tells("trust(1, 0)", 2);
        t.tells("trust(3, 2)", -1).tells("trust(2, 3)", 0).tells("trust(0, 3)", 0);
    }

    static void promise20_endsAndComesAgain() {
        Trial t = Trial.of(STREET, "q0/1").tells("trust(0, 1)", -1).years("f0/1").tells("trust(0, 1)", 0);
        t.years("f0/1").tells("trust(0, 1)", 1).years("q0/1q0/1").tells("trust(0, 1)", -1);
    }

    static void promise20_minus3To3() {
        Trial t = Trial.of(STREET);
        for (int i = 1; i <= 5; i++) {
            t.years("q0/1f1/0").tells("trust(0, 1)", Math.max(-3, -i)).tells("trust(1, 0)", Math.min(3, i));
        }
        for (int i = 1; i <= 7; i++) {
            t.years("f0/1q1/0").tells("trust(0, 1)", Math.min(3, -3 + i)).tells("trust(1, 0)", Math.max(-3, 3 - i));
        }
    }

    static void promise20_ofTheLastPersons() {
        Trial.of("p-:1".repeat(12), "q11/10f10/11").tells("trust(11, 10)", -1).tells("trust(10, 11)", 1)
            .tells("trust(11, 0)", 0).tells("trust(0, 11)", 0);
    }

    static void promise20_inHimselfIsBad() {
        Trial t = Trial.of(STREET);
        for (int p = 0; p < 4; p++) {
            t.refuses("trust(" + p + ", " + p + ")", BAD);
        }
    }

    static void promise20_noSuchPerson() {
        Trial.of(STREET).takes("trust(#, 1)", 0, 3).takes("trust(1, #)", 0, 3);
        Trial.of("p-:1").refuses("trust(0, 1)", BAD).refuses("trust(1, 0)", BAD).refuses("trust(0, 0)", BAD);
    }

    static void promise20_noPersons() {
        new Trial().refuses("trust(0, 1)", BAD).refuses("trust(0, 0)", BAD);
    }
}
