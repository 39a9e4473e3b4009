/** Promises 1 to 9: a new object, ROWS and TEXTS. */
final class RowEdges {
    private static final int BAD = Trial.BAD, MIN = Integer.MIN_VALUE, MAX = Integer.MAX_VALUE;
    private static final int NOTHING = Trial.NOTHING, BEYOND = Trial.BEYOND, NOUGHT = Trial.NOUGHT, SIZE = Trial.SIZE;

    private RowEdges() {
    }

    private static Trial rows(int... places) {
        return new Trial().row(0, places);
    }

    // ---- 1 a new object

    static void promise01_noRowsTextsHousesPersonsEvents() {
        Trial t = new Trial();
        for (int what = 0; what < 8; what++) {
            t.says("count(" + what + ")", 0);
        }
        t.refuses("house(0, 0)", BAD).refuses("person(0, 0)", BAD).refuses("key(0, 0)", BAD).refuses("told(0, 0)", BAD);
    }

    static void promise01_eachObjectIsItsOwn() {
        Trial.of("h1p0:1", "m0>0").row(0, 7);
        promise01_noRowsTextsHousesPersonsEvents();
    }

    // ---- 2 row

    static void promise02_anEmptyRowIsThere() {
        new Trial().says("row(0, 0)", 0).says("count(6)", 1).finds("at(0, 0)", BEYOND);
    }

    static void promise02_aFullRow() {
        Trial t = new Trial().says("row(5, 40)", 40);
        for (int i = 0; i < 40; i++) {
            t.tells("at(5, " + i + ")", 0);
        }
        t.finds("at(5, 40)", BEYOND);
    }

    static void promise02_nAbove40IsBad() {
        rows(1, 2).refuses("row(0, 41)", BAD).refuses("row(0, MAX)", BAD).refuses("row(1, 41)", BAD).rowIs(0, 1, 2);
    }

    static void promise02_nBelow0IsSize() {
        rows(1, 2).finds("row(0, -1)", SIZE).finds("row(0, MIN)", SIZE).finds("row(1, -1)", SIZE).rowIs(0, 1, 2);
    }

    static void promise02_noSuchRow() {
        new Trial().takes("row(#, 1)", 0, 5).refuses("row(6, 41)", BAD).refuses("row(-1, -1)", BAD);
    }

    static void promise02_aRowAnewIsAllNoughts() {
        Trial t = rows(7, 8, 9).says("row(0, 3)", 3).rowIs(0, 0, 0, 0);
        t.row(0, 7, 8, 9).says("row(0, 1)", 1).rowIs(0, 0).says("row(0, 3)", 3).rowIs(0, 0, 0, 0).says("count(6)", 1);
    }

    static void promise02_aTornRowAnewIsAllNoughts() {
        rows(7, 8).says("tear(0)", 1).says("row(0, 2)", 2).rowIs(0, 0, 0);
    }

    static void promise02_rowsBesideStay() {
        Trial t = rows(7).row(1, 8).row(2, 9);
        t.says("row(1, 40)", 40).rowIs(0, 7).rowIs(2, 9);
    }

    // ---- 3 lay

    static void promise03_theFirstAndTheLastPlace() {
        rows(5, 6, 7).tells("lay(0, 0, 1)", 5).tells("lay(0, 2, 3)", 7).rowIs(0, 1, 6, 3);
        Trial t = new Trial().says("row(4, 40)", 40).tells("lay(4, 39, 8)", 0).tells("at(4, 39)", 8);
        t.tells("lay(4, 0, 9)", 0).tells("at(4, 0)", 9).tells("at(4, 1)", 0);
    }

    static void promise03_whatItWasNotWhatItIs() {
        rows(0).tells("lay(0, 0, MAX)", 0).tells("lay(0, 0, MIN)", MAX).tells("lay(0, 0, -1)", MIN)
            .tells("lay(0, 0, 0)", -1);
    }

    static void promise03_placesThatThereAreNot() {
        rows(5, 6).finds("lay(0, 2, 1)", BEYOND).finds("lay(0, -1, 1)", BEYOND).finds("lay(0, MAX, 1)", BEYOND)
            .finds("lay(0, MIN, 1)", BEYOND).finds("lay(0, 40, 1)", BEYOND);
    }

    static void promise03_anEmptyRowHasNoPlace() {
        rows().finds("lay(0, 0, 1)", BEYOND);
    }

    static void promise03_aMissingRow() {
        new Trial().finds("lay(0, 0, 1)", NOTHING).finds("lay(5, -1, 1)", NOTHING).finds("lay(0, 40, 1)", NOTHING);
    }

    static void promise03_noSuchRow() {
        Trial t = rows(1);
        t.row(5, 2).takes("lay(#, 0, 9)", 0, 5);
    }

    // ---- 4 at

    static void promise04_theFirstAndTheLastPlace() {
        rows(5, 6, 7).tells("at(0, 0)", 5).tells("at(0, 2)", 7).tells("at(0, 2)", 7);
    }

    static void promise04_placesThatThereAreNot() {
        rows(5, 6).finds("at(0, 2)", BEYOND).finds("at(0, -1)", BEYOND).finds("at(0, MAX)", BEYOND)
            .finds("at(0, MIN)", BEYOND);
    }

    static void promise04_placesOfAnotherRowAreNone() {
        Trial t = rows(5);
        t.row(1, 6).finds("at(0, 1)", BEYOND).finds("at(0, 40)", BEYOND).finds("at(1, -40)", BEYOND);
    }

    static void promise04_anEmptyRowHasNoPlace() {
        rows().finds("at(0, 0)", BEYOND);
    }

    static void promise04_aMissingRow() {
        new Trial().finds("at(0, 0)", NOTHING).finds("at(5, -1)", NOTHING);
    }

    static void promise04_noSuchRow() {
        Trial t = rows(1);
        t.row(5, 2).takes("at(#, 0)", 0, 5);
    }

    static void promise04_eachRowHasItsOwn() {
        Trial t = new Trial();
        for (int r = 0; r < 6; r++) {
            t.row(r, new int[r + 1]).tells("lay(" + r + ", " + r + ", " + (r + 10) + ")", 0);
        }
        for (int r = 0; r < 6; r++) {
            t.tells("at(" + r + ", " + r + ")", r + 10).says("at(" + r + ", " + (r + 1) + ")", -3);
        }
    }

    // ---- 5 tear

    static void promise05_aTornRowIsMissing() {
        rows(1, 2).says("tear(0)", 1).says("count(6)", 0).finds("tear(0)", NOTHING).finds("at(0, 0)", NOTHING);
    }

    static void promise05_anEmptyRowIsTorn() {
        rows().says("tear(0)", 1).finds("tear(0)", NOTHING);
    }

    static void promise05_justThatRow() {
        Trial t = rows(1);
        t.row(1, 2).row(2, 3).says("tear(1)", 1).rowIs(0, 1).rowIs(2, 3).says("count(6)", 2);
    }

    static void promise05_aMissingRow() {
        new Trial().finds("tear(0)", NOTHING).finds("tear(5)", NOTHING);
    }

    static void promise05_noSuchRow() {
        Trial t = rows(1);
        t.row(5, 2).takes("tear(#)", 0, 5);
    }

    // ---- 6 copy

    static void promise06_ofNoPlaces() {
        Trial t = rows(1, 2, 3);
        t.row(1, 8, 9).row(2).row(3);
        t.says("copy(0, 0, 1, 0, 0)", 1).says("copy(0, 3, 1, 2, 0)", 1).says("copy(2, 0, 3, 0, 0)", 1)
            .says("copy(2, 0, 2, 0, 0)", 1);
        t.rowIs(0, 1, 2, 3).rowIs(1, 8, 9).rowIs(2).rowIs(3);
    }

    static void promise06_ofNoPlacesBeyondTheEnd() {
        Trial t = rows(1, 2, 3);
        t.row(1, 8, 9).row(2);
        t.finds("copy(0, 4, 1, 0, 0)", BEYOND).finds("copy(0, 0, 1, 3, 0)", BEYOND)
            .finds("copy(0, -1, 1, 0, 0)", BEYOND);
        t.finds("copy(0, 0, 1, -1, 0)", BEYOND).finds("copy(2, 1, 0, 0, 0)", BEYOND)
            .finds("copy(0, MAX, 0, MIN, 0)", BEYOND);
    }

    static void promise06_ontoItselfAsIfTakenAhead() {
        rows(1, 2, 3, 4, 5).says("copy(0, 0, 0, 1, 4)", 1).rowIs(0, 1, 1, 2, 3, 4);
        rows(1, 2, 3, 4, 5).says("copy(0, 1, 0, 0, 4)", 1).rowIs(0, 2, 3, 4, 5, 5);
        rows(1, 2, 3, 4, 5).says("copy(0, 0, 0, 2, 3)", 1).rowIs(0, 1, 2, 1, 2, 3);
        rows(1, 2, 3, 4, 5).says("copy(0, 0, 0, 0, 5)", 1).rowIs(0, 1, 2, 3, 4, 5);
        rows(1, 2, 3, 4).says("copy(0, 0, 0, 2, 2)", 1).rowIs(0, 1, 2, 1, 2);
    }

    static void promise06_aWholeRow() {
        Trial t = rows(1, 2, 3);
        t.row(1, 0, 0, 0).says("copy(0, 0, 1, 0, 3)", 1).rowIs(1, 1, 2, 3).rowIs(0, 1, 2, 3);
        Trial full = new Trial().says("row(0, 40)", 40).says("row(5, 40)", 40).tells("lay(0, 39, 7)", 0);
        full.says("copy(0, 0, 5, 0, 40)", 1).tells("at(5, 39)", 7).finds("copy(0, 0, 5, 0, 41)", BEYOND);
    }

    static void promise06_fromOneOnToOneOn() {
        Trial t = rows(1, 2, 3, 4);
        t.row(1, 6, 7, 8, 9).says("copy(0, 2, 1, 1, 2)", 1).rowIs(1, 6, 3, 4, 9).rowIs(0, 1, 2, 3, 4);
    }

    static void promise06_betweenAnyRows() {
        Trial t = new Trial().row(0, 5, 5, 5).row(3, 1, 2, 3).row(4, 7, 8, 9);
        t.says("copy(3, 1, 4, 0, 2)", 1).rowIs(4, 2, 3, 9).says("copy(4, 2, 3, 0, 1)", 1).rowIs(3, 9, 2, 3);
        t.says("row(1, 1)", 1).finds("copy(1, 0, 4, 0, 2)", BEYOND).finds("copy(4, 0, 1, 0, 2)", BEYOND)
            .rowIs(0, 5, 5, 5);
    }

    static void promise06_notSoManyThere() {
        Trial t = rows(1, 2, 3);
        t.row(1, 8, 9);
        t.finds("copy(0, 1, 1, 0, 3)", BEYOND).finds("copy(0, 0, 1, 1, 2)", BEYOND)
            .finds("copy(0, 0, 1, 0, 3)", BEYOND);
        t.finds("copy(1, 0, 0, 0, 3)", BEYOND).finds("copy(0, 2, 0, 0, 2)", BEYOND)
            .finds("copy(0, 0, 0, 2, 2)", BEYOND);
        t.finds("copy(0, 3, 1, 0, 1)", BEYOND).finds("copy(0, 0, 1, 2, 1)", BEYOND);
        t.finds("copy(0, -1, 1, 0, 2)", BEYOND).finds("copy(0, 0, 1, -1, 2)", BEYOND);
        t.rowIs(0, 1, 2, 3).rowIs(1, 8, 9);
    }

    static void promise06_numbersThatWrapAround() {
        Trial t = rows(1, 2, 3);
        t.finds("copy(0, MAX, 0, 0, MAX)", BEYOND).finds("copy(0, 0, 0, MAX, MAX)", BEYOND)
            .finds("copy(0, 1, 0, 1, MAX)", BEYOND);
        t.finds("copy(0, MIN, 0, 0, MAX)", BEYOND).finds("copy(0, MAX, 0, 0, 1)", BEYOND)
            .finds("copy(0, 0, 0, MIN, 1)", BEYOND);
    }

    static void promise06_nBelow0IsSize() {
        rows(1, 2).finds("copy(0, 0, 0, 1, -1)", SIZE).finds("copy(0, 0, 0, 0, MIN)", SIZE)
            .finds("copy(0, 2, 0, 2, -1)", SIZE);
    }

    static void promise06_sizeAheadOfNothingAheadOfBeyond() {
        Trial t = rows(1);
        t.finds("copy(1, 9, 2, 9, -1)", SIZE).finds("copy(0, 9, 0, 9, -1)", SIZE);
        t.finds("copy(1, 9, 0, 9, 9)", NOTHING).finds("copy(0, 9, 1, 9, 9)", NOTHING);
    }

    static void promise06_eitherIsMissing() {
        rows(1).finds("copy(0, 0, 1, 0, 1)", NOTHING).finds("copy(1, 0, 0, 0, 1)", NOTHING)
            .finds("copy(1, 0, 2, 0, 0)", NOTHING)
            .finds("copy(1, 0, 1, 0, 0)", NOTHING).finds("copy(0, 0, 1, 0, 0)", NOTHING);
    }

    static void promise06_noSuchRow() {
        Trial t = rows(1);
        t.row(5, 2).takes("copy(#, 0, 0, 0, 1)", 0, 5).takes("copy(0, 0, #, 0, 1)", 0, 5);
        t.refuses("copy(6, 0, 6, 0, -1)", BAD).refuses("copy(1, 0, 6, 0, 0)", BAD).refuses("copy(6, 9, 1, 0, 9)", BAD);
    }

    // ---- 7 mean

    static void promise07_ofAnEmptyRowIsNought() {
        rows().finds("mean(0)", NOUGHT);
    }

    static void promise07_ofOne() {
        rows(MIN).tells("mean(0)", MIN).tells("lay(0, 0, MAX)", MIN).tells("mean(0)", MAX);
    }

    static void promise07_isCut() {
        rows(1, 2).tells("mean(0)", 1);
        rows(-1, -2).tells("mean(0)", -1);
        rows(2, 3, 3).tells("mean(0)", 2);
        rows(-2, -3, -3).tells("mean(0)", -2);
        rows(1, 0).tells("mean(0)", 0);
        rows(-1, 0).tells("mean(0)", 0);
        rows(-5, 2).tells("mean(0)", -1);
    }

    static void promise07_doesNotWrapAround() {
        rows(MAX, MAX).tells("mean(0)", MAX);
        rows(MIN, MIN, MIN).tells("mean(0)", MIN);
        rows(MIN, MAX).tells("mean(0)", 0);
        rows(MAX, 1).tells("mean(0)", 1 << 30);
        int[] most = new int[40];
        java.util.Arrays.fill(most, MAX);
        rows(most).tells("mean(0)", MAX);
    }

    static void promise07_aMissingRow() {
        new Trial().finds("mean(0)", NOTHING);
        rows(1).says("tear(0)", 1).finds("mean(0)", NOTHING);
    }

    static void promise07_noSuchRow() {
        Trial t = rows(1);
        t.row(5, 2).takes("mean(#)", 0, 5);
    }

    static void promise07_leavesTheRow() {
        rows(5, 6, 8).tells("mean(0)", 6).rowIs(0, 5, 6, 8);
    }

    // ---- 8 text

    static void promise08_anEmptyTextIsThere() {
        new Trial().says("text(0, 0)", 0).says("count(7)", 1).finds("put(0, 0, 1)", BEYOND);
    }

    static void promise08_aFullTextOfBlanks() {
        Trial t = new Trial().says("text(3, 120)", 120);
        for (int i = 0; i < 120; i++) {
            t.says("put(3, " + i + ", 1)", 1032);
        }
        t.finds("put(3, 120, 1)", BEYOND);
    }

    static void promise08_nAbove120IsBad() {
        new Trial().write(0, "ab").refuses("text(0, 121)", BAD).refuses("text(0, MAX)", BAD)
            .refuses("text(1, 121)", BAD);
    }

    static void promise08_nBelow0IsSize() {
        new Trial().write(0, "ab").finds("text(0, -1)", SIZE).finds("text(0, MIN)", SIZE).finds("text(1, -1)", SIZE);
    }

    static void promise08_noSuchText() {
        new Trial().takes("text(#, 1)", 0, 3).refuses("text(4, 121)", BAD).refuses("text(-1, -1)", BAD);
    }

    static void promise08_aTextAnewIsAllBlanks() {
        Trial t = new Trial().write(0, "abc").says("text(0, 1)", 1).says("put(0, 0, 65)", 1032)
            .finds("put(0, 1, 65)", BEYOND);
        t.says("text(0, 3)", 3).says("put(0, 0, 1)", 1032).says("put(0, 1, 1)", 1032).says("put(0, 2, 1)", 1032);
        t.says("count(7)", 1);
    }

    static void promise08_textsBesideStay() {
        Trial t = new Trial().write(0, "a").write(1, "b").write(2, "c").says("text(1, 120)", 120);
        t.says("put(0, 0, 1)", 1097).says("put(2, 0, 1)", 1099);
    }

    // ---- 9 put

    static void promise09_whatItWasAnd1000More() {
        new Trial().write(0, "a").says("put(0, 0, 0)", 1097).says("put(0, 0, 127)", 1000).says("put(0, 0, 65)", 1127);
    }

    static void promise09_cutToAByte() {
        Trial t = new Trial().says("text(0, 1)", 1).says("put(0, 0, 128)", 1032);
        t.says("put(0, 0, 255)", 872).says("put(0, 0, 256)", 999).says("put(0, 0, 257)", 1000)
            .says("put(0, 0, -1)", 1001);
        t.says("put(0, 0, -128)", 999).says("put(0, 0, -129)", 872).says("put(0, 0, MAX)", 1127)
            .says("put(0, 0, MIN)", 999);
        t.says("put(0, 0, 1)", 1000);
    }

    static void promise09_placesThatThereAreNot() {
        new Trial().write(0, "ab").finds("put(0, 2, 1)", BEYOND).finds("put(0, -1, 1)", BEYOND)
            .finds("put(0, MAX, 1)", BEYOND)
            .finds("put(0, MIN, 1)", BEYOND).finds("put(0, 120, 1)", BEYOND);
    }

    static void promise09_anEmptyTextHasNoPlace() {
        new Trial().says("text(0, 0)", 0).finds("put(0, 0, 1)", BEYOND);
    }

    static void promise09_aMissingText() {
        new Trial().finds("put(0, 0, 1)", NOTHING).finds("put(3, -1, 1)", NOTHING).finds("put(0, 120, 1)", NOTHING);
    }

    static void promise09_noSuchText() {
        new Trial().write(0, "a").write(3, "b").takes("put(#, 0, 1)", 0, 3);
    }

    static void promise09_isNotAsked() {
        rows(9).tells("at(0, 0)", 9).write(0, "a").tells("put(0, 0, 1)", 1097, 9);
    }
}
