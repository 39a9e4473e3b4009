/** 'Terms' 1: sizes of ROWS and TEXTS, FAULTS of STREETS and YEARS, EVENTS and their KINDS. */
final class TextEdges {
    private static final int NONE = Trial.NONE, STATE = Trial.STATE, FULL = Trial.FULL;
    private static final int NOTHING = Trial.NOTHING, BEYOND = Trial.BEYOND, UNLIKE = Trial.UNLIKE;
    private static final String[] ITEMS = {"m1>2", "c0>1", "g0>1", "l0@1", "i0@0", "x1", "q0/1", "f2/1"};

    private TextEdges() {
    }

    private static void streets(int place, String... texts) {
        for (String text : texts) {
            Trial.streetFault(text, place);
        }
    }

    /** Behind m0>0: so there are 2 HOUSES, 3 PERSONS and KEY 0. */
    private static Trial withKey() {
        return Trial.of("h1h2p0:1p1:2p-:3", "m0>0");
    }

    private static void years(int place, String... texts) {
        for (String text : texts) {
            withKey().yearFault(text, place);
        }
    }

    // ---- ROWS and TEXTS

    static void terms1_rowsAre0To5() {
        new Trial().takes("row(#, 3)", 0, 5).says("count(6)", 2);
    }

    static void terms1_rowsOf0To40Ints() {
        Trial t = new Trial().says("row(0, 0)", 0).says("row(1, 40)", 40).says("row(2, 1)", 1);
        t.finds("at(0, 0)", BEYOND).tells("at(1, 39)", 0).finds("at(1, 40)", BEYOND);
    }

    static void terms1_rowsHoldAllInts() {
        Trial t = new Trial();
        t.row(0, Integer.MAX_VALUE, Integer.MIN_VALUE, -1).rowIs(0, Integer.MAX_VALUE, Integer.MIN_VALUE, -1);
    }

    static void terms1_textsAre0To3() {
        new Trial().takes("text(#, 3)", 0, 3).says("count(7)", 2);
    }

    static void terms1_textsOf0To120Bytes() {
        Trial t = new Trial().says("text(0, 0)", 0).says("text(1, 120)", 120);
        t.finds("put(0, 0, 1)", BEYOND).says("put(1, 119, 1)", 1032).finds("put(1, 120, 1)", BEYOND);
    }

    static void terms1_rowsAndTextsAreMissingAtFirst() {
        for (int r = 0; r < 6; r++) {
            new Trial().finds("at(" + r + ", 0)", NOTHING).finds("tear(" + r + ")", NOTHING);
        }
        for (int t = 0; t < 4; t++) {
            new Trial().finds("put(" + t + ", 0, 1)", NOTHING).finds("fault(" + t + ", false)", NOTHING);
        }
    }

    // ---- STREETS

    static void terms1_streetBlanksAheadBetweenBehind() {
        streets(NONE, "", " ", "   ", "  h1", "h1  ", "h1   h2", " h1  p0:1   h2  ", " ".repeat(120));
        Trial.of("   h7  p0:5   h8  ").says("count(0)", 2).says("count(1)", 1).tells("house(1, 0)", 8);
    }

    static void terms1_streetNeedsNoBlanks() {
        streets(NONE, "h1p0:1h22p-:3p1:12h0");
    }

    static void terms1_streetNoBlankWithinItems() {
        streets(1, "h 1", "p -:1", "p 0:1");
        streets(2, "p- :1");
        streets(3, "p-: 1", "h1p 0:1", "h1 2");
        streets(4, "h1p0 :1");
        streets(5, "h1p0: 1", "p-:1 2");
    }

    static void terms1_justByte32IsABlank() {
        streets(0, "\th1", "\nh1", (char) 0 + "h1", (char) 160 + "h1", (char) 31 + "h1", "!h1");
        streets(2, "h1\t", "h1" + (char) 160, "h1" + (char) 0);
    }

    static void terms1_costsAre0To99() {
        Trial t = Trial.of("h0h99h00h09h10h9");
        t.tells("house(0, 0)", 0).tells("house(1, 0)", 99).tells("house(2, 0)", 0).tells("house(3, 0)", 9);
        t.tells("house(4, 0)", 10).tells("house(5, 0)", 9);
    }

    static void terms1_costOfThreeFigures() {
        streets(3, "h100", "h000", "h999", "h123 h1");
    }

    static void terms1_costWithoutAFigure() {
        streets(1, "h", "h ", "hh1", "h-1", "hp-:1", "hx");
    }

    static void terms1_signsBesideTheFiguresAreNone() {
        streets(1, "h/", "h:");
        streets(2, "h1/", "h1:");
        streets(3, "p-:/", "p-::", "h1p/:1", "h1p::1");
    }

    static void terms1_answersAre0To12() {
        Trial t = Trial.of("p-:0p-:12p-:00p-:09p-:9p-:10");
        t.tells("person(0, 1)", 0).tells("person(1, 1)", 12).tells("person(2, 1)", 0).tells("person(3, 1)", 9);
        t.tells("person(4, 1)", 9).tells("person(5, 1)", 10);
    }

    static void terms1_answersOutOfTheseThePlaceBehind() {
        streets(5, "p-:13", "p-:99", "p-:20", "p-:13 h1", "p-:130", "p-:13p-:14", "p-:13?");
        streets(7, "h1p0:13", "h1p0:13 p9:9");
    }

    static void terms1_answersOfThreeFigures() {
        streets(5, "p-:012", "p-:123", "p-:000");
    }

    static void terms1_answersBelow0() {
        streets(3, "p-:-1", "p-:-", "p-:+1");
    }

    static void terms1_figureOfNoHouseItsPlace() {
        streets(1, "p0:1", "p0:1h1", "p0", "p9");
        streets(3, "h1p1:1", "h1p1:1h1", "h1p9:99", "h1p1");
        streets(13, "h1h1h1h1h1h1p6:1", "h1h1h1h1h1h1p7:1");
        streets(NONE, "h1p0:1", "h1h1h1h1h1h1p5:1");
    }

    static void terms1_homeIsNoFigureAndNoDash() {
        streets(1, "p:1", "px:1", "p", "p+:1", "ph1");
    }

    static void terms1_homeIsOneSign() {
        streets(2, "p--:1", "p-0:1");
        streets(4, "h1p00:1", "h1p0-:1");
    }

    static void terms1_homeAndAnswersAreJoinedByAColon() {
        streets(2, "p-1", "p-;1", "p->1", "p-/1");
        streets(4, "h1p01", "h1p0h1");
    }

    static void terms1_housesToldInAnotherStreetAreNone() {
        Trial.of("h1h1p1:1").write(2, "h1p1:1").says("fault(2, false)", 3).refuses("street(2)", STATE);
    }

    static void terms1_aSeventhHouseItsLetter() {
        streets(12, "h1".repeat(7), "h1".repeat(6) + "h", "h1".repeat(6) + "h?", "h1".repeat(8));
        streets(14, "h1".repeat(6) + "  h1");
        streets(NONE, "h1".repeat(6));
    }

    static void terms1_aThirteenthPersonItsLetter() {
        streets(48, "p-:1".repeat(13), "p-:1".repeat(12) + "p", "p-:1".repeat(12) + "p9:99");
        streets(49, "p-:1".repeat(12) + " p-:1");
        streets(NONE, "p-:1".repeat(12), "p-:1".repeat(12) + "h1");
    }

    static void terms1_sixHousesAndTwelvePersons() {
        Trial t = Trial.of("h99".repeat(6) + "p5:12".repeat(12));
        t.says("count(0)", 6).says("count(1)", 12).tells("person(11, 0)", 5).tells("house(5, 3)", 4095);
    }

    static void terms1_streetEndsTooEarlyTheSize() {
        streets(1, "h", "p");
        streets(2, "p-");
        streets(3, "p-:", "h1h", "h1p");
        streets(4, "h1p0");
        streets(5, "h1p0:");
        streets(120, " ".repeat(119) + "h", " ".repeat(117) + "p-:", " ".repeat(118) + "p-");
        streets(NONE, " ".repeat(118) + "h1", " ".repeat(116) + "p-:1");
    }

    static void terms1_streetFaultIsTheFirst() {
        streets(0, "x", "1", "-", ":", "H1", "P-:1", "m0>0", "xh1");
        streets(3, "h1 x h100 p9:99", "h1 ?");
        streets(2, "h1?p9:99");
    }

    static void terms1_housesAndPersonsAreAsTheyCome() {
        Trial t = Trial.of("h3p0:1h4p1:2p0:5p-:6h5");
        t.tells("house(0, 0)", 3).tells("house(1, 0)", 4).tells("house(2, 0)", 5);
        t.tells("person(0, 0)", 0).tells("person(1, 0)", 1).tells("person(2, 0)", 0).tells("person(3, 0)", NONE);
        t.tells("house(0, 3)", 1 + 4).tells("house(1, 3)", 2).tells("house(2, 3)", 0);
    }

    static void terms1_streetBytesAreCutBeforeTheyAreRead() {
        // 104 + 256 is an h, 49 - 256 a figure 1.
        Trial t = new Trial().says("text(0, 2)", 2);
        t.says("put(0, 0, 360)", 1032).says("put(0, 1, -207)", 1032).says("fault(0, false)", NONE).says("street(0)", 1);
    }

    // ---- YEARS

    static void terms1_yearBlanksAheadBetweenBehind() {
        years(NONE, "", " ", "    ", "  m0>0", "m0>0   ", "x0    x1", "  c0>1  g1>2  q0/1 ", " ".repeat(120));
    }

    static void terms1_yearNeedsNoBlanks() {
        years(NONE, "m1>2c0>1g0>1l0@1i0@0x1q0/1f2/1");
    }

    static void terms1_yearNoBlankWithinItems() {
        for (String item : ITEMS) {
            for (int i = 1; i < item.length(); i++) {
                years(i, item.substring(0, i) + " " + item.substring(i));
            }
        }
    }

    static void terms1_yearEndsTooEarlyTheSize() {
        for (String item : ITEMS) {
            for (int i = 1; i < item.length(); i++) {
                years(i, item.substring(0, i));
                years(i + 2, "x0" + item.substring(0, i));
            }
            years(NONE, item);
        }
        years(120, " ".repeat(119) + "x", " ".repeat(117) + "m0>");
        years(NONE, " ".repeat(118) + "x0", " ".repeat(116) + "m0>0");
    }

    static void terms1_yearAnotherJoint() {
        for (String item : ITEMS) {
            for (char joint : new char[] {'>', '@', '/', ':', '-', '?'}) {
                if (item.length() == 4 && item.charAt(2) != joint) {
                    years(2, item.substring(0, 2) + joint + item.substring(3));
                }
            }
        }
        years(2, "x0>0", "x0@0", "x0/1");
    }

    static void terms1_yearItemsOfNoSuchLetter() {
        years(0, "a0>0", "h1", "p0:1", "M0>0", "0", ">", "d0>0", "e", "n0>0", "\tx0", (char) 0 + "x0");
        years(2, "x0?", "x0h1", "x0-");
    }

    static void terms1_yearHousesHaveOneFigure() {
        years(2, "m00>0", "m01>0", "x00", "x01");
        years(4, "l0@00", "i0@01", "l0@10");
    }

    static void terms1_yearFigureOfNoHouseItsPlace() {
        years(1, "m2>0", "x2", "m9>0", "x9", "m2");
        years(3, "l0@2", "i0@2", "l0@9", "i0@9");
        years(NONE, "m1>0", "x1", "l0@1", "i0@1");
        Trial.of("p-:1").yearFault("x0", 1).yearFault("m0>0", 1);
    }

    static void terms1_yearHouseThatIsNoFigure() {
        years(1, "m>0", "x", "x>", "x/", "x:", "m-1>0");
        years(3, "l0@", "i0@?", "l0@/", "i0@:");
    }

    static void terms1_yearKeysAndPersonsHaveOneOrTwoFigures() {
        years(NONE, "m0>02", "c00>01", "g00>02", "l00@1", "i00@1", "q00/01", "f02/1", "q0/02");
        years(3, "c000>0", "g000>0", "l000@0", "i000@0", "q000/1", "f001/0");
        years(5, "m0>000", "c0>001", "g0>002", "q0/001", "f0/012");
    }

    static void terms1_yearKeyThatIsNoneThePlaceBehind() {
        years(2, "c1>0", "g1>0", "l1@0", "i1@0", "g9>0", "c9");
        years(3, "c01>0", "g01>0", "l10@0", "i99@0", "g24>0");
        Trial.of("h1p0:1").yearFault("c0>0", 2).yearFault("g0>0", 2).yearFault("l00@0", 3).yearFault("i0@0", 2);
    }

    static void terms1_yearPersonThatIsNoneThePlaceBehind() {
        years(4, "m0>3", "c0>3", "g0>3", "q0/3", "f0/9", "m0>3x0");
        years(5, "m0>03", "c0>10", "g0>99", "q0/12", "f0/03");
        years(2, "q3/0", "f9/0");
        years(3, "q03/0", "f12/0");
        Trial.of("h1").yearFault("m0>0", 4).yearFault("q0/1", 2);
    }

    static void terms1_yearPersonOrKeyWithoutAFigure() {
        years(1, "c>0", "g>0", "l@0", "i@0", "q/1", "f/1", "g-1>0");
        years(3, "m0>", "c0>?", "g0>-1", "q0/", "f0//", "m0>:");
    }

    static void terms1_keysByEventsAheadOfIt() {
        years(NONE, "c0>0c1>0c2>0g3>0", "m0>0l1@0", "c0>0i1@0");
        years(2, "g1>0c0>0", "c1>0", "g1>0m0>0");
        years(6, "m0>0c2>0", "c0>1g2>1");
        Trial t = withKey().yearFault("g0>1", NONE);
        t.says("back(0)", 1).yearFault("g0>1", 2);
    }

    static void terms1_justMadeAndCopyBringAKey() {
        years(4, "x0g1>0", "x1c1>0");
        years(6, "g0>1g1>0", "l0@0l1@0", "i0@0i1@0", "q0/1c1>0", "f0/1g1>0");
        years(NONE, "m0>0g1>0", "c0>0g1>0");
    }

    static void terms1_aAndBAreUnlike() {
        years(4, "q0/0", "f1/1", "q2/2", "q0/0x0");
        years(5, "q0/00", "f01/1", "q02/2");
        years(6, "q00/00");
        years(NONE, "q0/1", "q1/0", "f2/0", "m0>0", "c0>0", "g0>0", "l0@0", "i0@0");
    }

    static void terms1_aTwentyFifthKeyItsLetter() {
        years(92, "m0>0".repeat(24), "m0>0".repeat(23) + "c0>0", "m0>0".repeat(23) + "m", "m0>0".repeat(23) + "c99>0");
        years(NONE, "m0>0".repeat(23), "m0>0".repeat(23) + "g23>0");
        years(95, "m0>0".repeat(23) + "g24>0");
        Trial t = Trial.of("h1p0:1p0:2", "m0>0".repeat(24));
        t.yearFault("m0>0", 0).yearFault(" c0>0", 1).yearFault("x0 m0>0", 3).yearFault("x0g23>0l0@0i1@0q0/1", NONE);
    }

    static void terms1_aFortyFirstEventItsLetter() {
        years(78, "x0".repeat(40), "x0".repeat(39) + "q0/1", "x0".repeat(39) + "m", "x0".repeat(39) + "c0>0");
        years(NONE, "x0".repeat(39), "x0".repeat(39) + "  ");
        Trial t = Trial.of("h1p0:1p0:2", "x0".repeat(39));
        t.yearFault("x0", NONE).yearFault("x0 x0", 3).yearFault("f0/1m0>0", 4);
        t.says("event(6, 0, 0, true)", 39).yearFault("x0", 0).yearFault("  x9", 2).yearFault("   ", NONE);
    }

    static void terms1_yearFaultIsTheFirst() {
        years(1, "x9 q0/0 ?", "m5>9");
        years(3, "x0 ?x9", "x0 hx9");
    }

    static void terms1_aFaultIsOfTheTextNotOfEvents() {
        Trial t = withKey().yearFault("c0>0c1>0", NONE).yearFault("c0>0c1>0", NONE);
        t.says("count(2)", 1).yearFault("g1>0", 2);
    }

    // ---- EVENTS

    static void terms1_fortyEventsAtMost() {
        Trial t = Trial.of("h1p0:1", "x0".repeat(39)).says("event(6, 0, 0, true)", 39).says("count(4)", 40);
        t.refuses("event(6, 0, 0, true)", FULL).says("back(39)", 1).says("event(6, 0, 0, true)", 39);
    }

    static void terms1_twentyFourKeysAtMost() {
        Trial t = Trial.of("h1p0:1", "m0>0".repeat(23)).says("event(2, 22, 0, true)", 23).says("count(2)", 24);
        t.refuses("event(1, 0, 0, true)", FULL).refuses("event(2, 0, 0, true)", FULL).says("event(3, 23, 0, true)", 24);
        t.says("back(23)", 2).says("event(1, 0, 0, true)", 23);
    }

    static void terms1_trustMinus3AtLeast() {
        Trial t = Trial.of("p-:1p-:1", "q0/1q0/1q0/1").tells("trust(0, 1)", -3);
        t.years("q0/1").tells("trust(0, 1)", -3).years("q0/1f0/1").tells("trust(0, 1)", -2);
        t.says("event(7, 0, 1, false)", 6).says("event(7, 0, 1, false)", 7).tells("trust(0, 1)", -3);
        t.tells("trust(1, 0)", 0);
    }

    static void terms1_trust3AtMost() {
        Trial t = Trial.of("p-:1p-:1", "f1/0f1/0f1/0").tells("trust(1, 0)", 3);
        t.years("f1/0").tells("trust(1, 0)", 3).years("f1/0q1/0").tells("trust(1, 0)", 2);
        t.says("event(7, 1, 0, true)", 6).says("event(7, 1, 0, true)", 7).tells("trust(1, 0)", 3);
        t.tells("trust(0, 1)", 0);
    }

    static void terms1_aCopyIsAMadeAnInsideALaid() {
        // EVENTS of KINDS 1 to 7, each by the number of its KIND less 1; kinds[e] are those that it IS.
        Trial t = Trial.of("h1p0:1p0:1", "m0>0c0>0g0>0l0@0i0@0x0q0/1");
        String[] kinds = {"1", "12", "3", "4", "45", "6", "7"};
        for (int e = 0; e < 7; e++) {
            for (int kind = 1; kind < 8; kind++) {
                boolean is = kinds[e].indexOf('0' + kind) >= 0;
                long answer = t.call("mark(" + e + ", " + kind + ")");
                EdgeTest.due.is("EVENT " + e + " is of KIND " + kind, answer == Trial.FINDING ? 0 : 1, is ? 1 : 0);
            }
        }
        t.says("findings(3)", 49 - 9).finds("mark(0, 2)", UNLIKE).finds("mark(3, 5)", UNLIKE);
    }

    static void terms1_keysAreAsTheyCome() {
        Trial t = Trial.of("h1h1p0:1", "m1>0x0c0>0m0>0");
        t.tells("key(0, 0)", 1).tells("key(1, 0)", 1).tells("key(2, 0)", 0).says("mark(3, 1)", 2);
    }

    static void terms1_eventsOneBehindTheOther() {
        Trial.of("h1p0:1", "m0>0x0").tells("key(0, 1)", 0);
        Trial.of("h1p0:1", "x0m0>0").tells("key(0, 1)", 1);
        Trial.of("h1p0:1p0:1", "m0>0g0>1l0@0").tells("key(0, 2)", 1);
        Trial.of("h1p0:1p0:1", "m0>0l0@0g0>1").tells("key(0, 2)", 0).tells("key(0, 3)", 1);
    }
}
