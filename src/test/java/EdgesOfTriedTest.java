/** Boundary cases of promises 16 to 25: shows, alike, trail, came, met, leftOut, washes, rest, rain, blend. */
public final class EdgesOfTriedTest {
    private static final String TWO = "c2 30;p60,0;p0,60;";
    /** Behind its touches coats 0 to 3 have of colour 0: 60 0 0 0; 30 30 0 0; 30 15 15 0; 30 15 7 8. */
    private static final String CHAIN = "c2 30;p60,0;p0,60;p0,60;p0,60;t0 1,1 2,2 3;";
    /** By each touch the one part goes to the other coat. */
    private static final String SWAP = "c2 30;p1,59;p0,60;";
    private static final String TEN = "t0 1,0 1,0 1,0 1,0 1,0 1,0 1,0 1,0 1,0 1;";
    private static final String SIX = "c5 30;p60,0,0,0,0;p60,0,0,0,0;p60,0,0,0,0;p60,0,0,0,0;p60,0,0,0,0;p60,0,0,0,0;";
    private static final int LEAST = Integer.MIN_VALUE;
    private static final int GREATEST = Integer.MAX_VALUE;

    public static void main(String[] args) {
        Edges.run(EdgesOfTriedTest.class);
    }

    // ---- 16: shows

    @Edge(promise = 16, says = "SHOWS behind the k-th TOUCH of THE DAY (0: now; k as many as it has at most): parts of a COLOUR on a COAT.")
    static void showsNow(Check check) {
        RubbedColours x = Check.houseOf(CHAIN);
        check.due("shows(0, 0, 0)", x.shows(0, 0, 0), 60);
        x.touch(0, 1);
        check.due("shows(0, 0, 0) behind a touch", x.shows(0, 0, 0), 30);
        check.due("shows(0, 0, 0) of no day", Check.houseOf(TWO).shows(0, 0, 0), 60);
    }

    @Edge(promise = 16, says = "SHOWS behind the k-th TOUCH of THE DAY (0: now; k as many as it has at most): parts of a COLOUR on a COAT.")
    static void showsBehindEachAndTheLast(Check check) {
        RubbedColours x = Check.houseOf(CHAIN);
        int[][] due = {{60, 0, 0, 0}, {30, 30, 0, 0}, {30, 15, 15, 0}, {30, 15, 7, 8}};
        for (int k = 0; k <= 3; k++) {
            for (int a = 0; a < 4; a++) {
                check.due("shows(" + a + ", 0, " + k + ")", x.shows(a, 0, k), due[k][a]);
                check.due("shows(" + a + ", 1, " + k + ")", x.shows(a, 1, k), 60 - due[k][a]);
            }
        }
        RubbedColours ten = Check.houseOf(SWAP + TEN);
        check.due("shows(0, 0, 9)", ten.shows(0, 0, 9), 0);
        check.due("shows(0, 0, 10)", ten.shows(0, 0, 10), 1);
    }

    @Edge(promise = 16, says = "UNKNOWN, OUTSIDE (k).")
    static void showsBehindTooManyOrTooFew(Check check) {
        RubbedColours x = Check.houseOf(CHAIN);
        for (int k : new int[] {-1, 4, LEAST, GREATEST}) {
            check.due("shows(0, 0, " + k + ")", x.shows(0, 0, k), Check.OUTSIDE);
        }
        check.due("shows(0, 0, 11) of ten", Check.houseOf(SWAP + TEN).shows(0, 0, 11), Check.OUTSIDE);
        check.due("shows(0, 0, 1) of no day", Check.houseOf(TWO).shows(0, 0, 1), Check.OUTSIDE);
    }

    @Edge(promise = 16, says = "SHOWS.")
    static void showsBehindTheDayWhatTheDayBrings(Check check) {
        RubbedColours x = Check.houseOf(CHAIN);
        int[] end = new int[4];
        for (int a = 0; a < 4; a++) {
            end[a] = x.shows(a, 0, 3);
        }
        x.day();
        for (int a = 0; a < 4; a++) {
            check.due("parts(" + a + ", 0) behind the day", x.parts(a, 0), end[a]);
        }
    }

    @Edge(promise = 16, says = "UNKNOWN, OUTSIDE (k).")
    static void showsOfWhatThereIsNot(Check check) {
        RubbedColours x = Check.houseOf(CHAIN);
        int[][] unknown = {{4, 0}, {-1, 0}, {0, 2}, {0, -1}, {GREATEST, 0}, {0, LEAST}};
        for (int[] u : unknown) {
            check.due("shows(" + u[0] + ", " + u[1] + ", 0)", x.shows(u[0], u[1], 0), Check.UNKNOWN);
            check.due("shows(" + u[0] + ", " + u[1] + ", 4)", x.shows(u[0], u[1], 4), Check.UNKNOWN);
        }
    }

    @Edge(promise = 16, says = "TRIED from now; nothing changes by it.")
    static void glovesWornNowCountAndNothingChanges(Check check) {
        RubbedColours x = Check.houseOf(CHAIN);
        x.glove(1, true);
        check.due("shows(0, 0, 3) in gloves", x.shows(0, 0, 3), 60);
        x.glove(1, false);
        check.due("shows(0, 0, 3)", x.shows(0, 0, 3), 30);
        check.due("parts(0, 0)", x.parts(0, 0), 60);
        check.due("told(8)", x.told(8), 0);
        check.due("told(11)", x.told(11), 2);
    }

    // ---- 17: alike

    @Edge(promise = 17, says = "ALIKE of two: the first k (0 to all) behind which all their parts are alike; NONE.")
    static void alikeNow(Check check) {
        RubbedColours x = Check.houseOf(CHAIN);
        check.due("alike(1, 2)", x.alike(1, 2), 0);
        check.due("alike(0, 1) of no day", Check.houseOf("c2 1;p7,53;p7,53;").alike(0, 1), 0);
    }

    @Edge(promise = 17, says = "ALIKE of two: the first k (0 to all) behind which all their parts are alike; NONE.")
    static void alikeBehindTheLastTouch(Check check) {
        check.due("of one", Check.houseOf(TWO + "t0 1;").alike(0, 1), 1);
        RubbedColours last = Check.houseOf("c2 30;p60,0;p0,60;p60,0;t0 2,0 2,0 2,0 2,0 2,0 2,0 2,0 2,0 2,0 1;");
        check.due("of ten", last.alike(0, 1), 10);
        check.due("of ten, turned", last.alike(1, 0), 10);
    }

    @Edge(promise = 17, says = "ALIKE of two: the first k (0 to all) behind which all their parts are alike; NONE.")
    static void alikeForAWhileOnly(Check check) {
        // behind the first touch 0 and 1 are alike, behind the second no more
        RubbedColours x = Check.houseOf("c2 30;p60,0;p0,60;p60,0;t0 1,1 2;");
        check.due("alike(0, 1)", x.alike(0, 1), 1);
    }

    @Edge(promise = 17, says = "ALIKE of two: the first k (0 to all) behind which all their parts are alike; NONE.")
    static void alikeInSomeColoursAlone(Check check) {
        check.due("in the first", Check.houseOf("c3 1;p20,20,20;p20,30,10;").alike(0, 1), Check.NONE);
        check.due("in the last", Check.houseOf("c3 1;p20,20,20;p30,10,20;").alike(0, 1), Check.NONE);
        check.due("in all but two of five", Check.houseOf("c5 1;p10,10,10,15,15;p10,10,10,14,16;").alike(0, 1), Check.NONE);
    }

    @Edge(promise = 17, says = "ALIKE; NONE.")
    static void neverAlike(Check check) {
        RubbedColours x = Check.houseOf(CHAIN);
        check.due("alike(0, 3)", x.alike(0, 3), Check.NONE);
        x.glove(0, true);
        check.due("alike(0, 1) in gloves", x.alike(0, 1), Check.NONE);
    }

    @Edge(promise = 17, says = "UNKNOWN.")
    static void alikeOfOneTwiceOrOfNone(Check check) {
        RubbedColours x = Check.houseOf(CHAIN);
        int[][] unknown = {{0, 0}, {3, 3}, {0, 4}, {4, 0}, {-1, 0}, {0, -1}, {LEAST, 0}, {0, GREATEST}};
        for (int[] u : unknown) {
            check.due("alike(" + u[0] + ", " + u[1] + ")", x.alike(u[0], u[1]), Check.UNKNOWN);
        }
    }

    // ---- 18: trail

    @Edge(promise = 18, says = "TRAIL of a COLOUR to a COAT: the first TOUCH of THE DAY by which it has more of it; from whom; NONE.")
    static void trailByTheFirstTouchAndByTheLast(Check check) {
        RubbedColours x = Check.houseOf(CHAIN);
        check.due("the first", x.trail(0, 1, 0), 0);
        check.due("the first, from whom", x.trail(0, 1, 1), 0);
        check.due("the last", x.trail(0, 3, 0), 2);
        check.due("the last, from whom", x.trail(0, 3, 1), 2);
        RubbedColours ten = Check.houseOf("c2 30;p60,0;p0,60;p0,60;t1 2,1 2,1 2,1 2,1 2,1 2,1 2,1 2,1 2,1 0;");
        check.due("the tenth", ten.trail(0, 1, 0), 9);
        check.due("the tenth, from whom: the second told", ten.trail(0, 1, 1), 0);
    }

    @Edge(promise = 18, says = "TRAIL of a COLOUR to a COAT: the first TOUCH of THE DAY by which it has more of it; from whom; NONE.")
    static void trailBehindALoss(Check check) {
        RubbedColours x = Check.houseOf(CHAIN);
        // coat 1 loses 30 of colour 1 by the first touch and gets 15 by the second
        check.due("trail(1, 1, 0)", x.trail(1, 1, 0), 1);
        check.due("trail(1, 1, 1)", x.trail(1, 1, 1), 2);
    }

    @Edge(promise = 18, says = "TRAIL: what = 0 the TOUCH, 1 from whom; NONE.")
    static void noTrail(Check check) {
        RubbedColours x = Check.houseOf(CHAIN);
        check.due("trail(0, 0, 0)", x.trail(0, 0, 0), Check.NONE);
        check.due("trail(0, 0, 1)", x.trail(0, 0, 1), Check.NONE);
        x.glove(0, true);
        check.due("in gloves", x.trail(0, 1, 0), Check.NONE);
        check.due("of no day", Check.houseOf(TWO).trail(0, 1, 1), Check.NONE);
    }

    @Edge(promise = 18, says = "UNKNOWN, OUTSIDE.")
    static void trailAskedWithAnotherWhat(Check check) {
        RubbedColours x = Check.houseOf(CHAIN);
        for (int what : new int[] {-1, 2, LEAST, GREATEST}) {
            check.due("trail(0, 1, " + what + ")", x.trail(0, 1, what), Check.OUTSIDE);
            check.due("trail(0, 0, " + what + ") without a trail", x.trail(0, 0, what), Check.OUTSIDE);
        }
    }

    @Edge(promise = 18, says = "UNKNOWN, OUTSIDE.")
    static void trailOfWhatThereIsNot(Check check) {
        RubbedColours x = Check.houseOf(CHAIN);
        // the colour is told first: 3 is a coat here, but no colour
        int[][] unknown = {{3, 0}, {2, 0}, {-1, 0}, {0, 4}, {0, -1}, {LEAST, 0}, {0, GREATEST}};
        for (int[] u : unknown) {
            check.due("trail(" + u[0] + ", " + u[1] + ", 0)", x.trail(u[0], u[1], 0), Check.UNKNOWN);
            check.due("trail(" + u[0] + ", " + u[1] + ", 2)", x.trail(u[0], u[1], 2), Check.UNKNOWN);
        }
    }

    // ---- 19: came

    @Edge(promise = 19, says = "CAME: the fewest TOUCHES (0 .. 3; any two COATS, GLOVES as they are) by which a COAT has v parts (0 .. 60) of a COLOUR and u of another one:")
    static void cameByNone(Check check) {
        RubbedColours x = Check.houseOf(CHAIN);
        check.due("the fewest", x.came(0, 0, 60, 1, 0, -1), 0);
        check.due("rows: the empty one", x.came(0, 0, 60, 1, 0, -2), 1);
        check.due("its touch 0", x.came(0, 0, 60, 1, 0, 0), Check.NONE);
        check.due("one coat alone", Check.houseOf("c2 1;p7,53;").came(0, 1, 53, 0, 7, -1), 0);
    }

    @Edge(promise = 19, says = "CAME: the fewest TOUCHES (0 .. 3; any two COATS, GLOVES as they are) by which a COAT has v parts (0 .. 60) of a COLOUR and u of another one:")
    static void cameByThreeButNotByFour(Check check) {
        RubbedColours x = Check.houseOf("c2 30;p60,0;p0,60;p0,60;p0,60;p0,60;");
        check.due("by three", x.came(3, 0, 8, 1, 52, -1), 3);
        check.due("by four", x.came(4, 0, 4, 1, 56, -1), Check.NONE);
        check.due("by four, rows", x.came(4, 0, 4, 1, 56, -2), Check.NONE);
        x.touch(0, 1);
        check.due("by three more", x.came(4, 0, 4, 1, 56, -1), 3);
        x.touch(1, 2);
        x.touch(2, 3);
        x.touch(3, 4);
        check.due("by none more", x.came(4, 0, 4, 1, 56, -1), 0);
    }

    @Edge(promise = 19, says = "CAME: the fewest TOUCHES (0 .. 3; any two COATS, GLOVES as they are) by which a COAT has v parts (0 .. 60) of a COLOUR and u of another one:")
    static void cameInGloves(Check check) {
        RubbedColours x = Check.houseOf("c2 30;p60,0;p60,0;p0,60;g0;");
        check.due("past the gloves", x.came(2, 0, 30, 1, 30, 0), 12);
        check.due("past the gloves, rows", x.came(2, 0, 30, 1, 30, -2), 1);
        x.glove(2, true);
        check.due("in gloves", x.came(2, 0, 30, 1, 30, -1), Check.NONE);
        check.due("in gloves, as it is", x.came(2, 0, 0, 1, 60, -1), 0);
    }

    @Edge(promise = 19, says = "CAME: the fewest TOUCHES (0 .. 3; any two COATS, GLOVES as they are) by which a COAT has v parts (0 .. 60) of a COLOUR and u of another one:")
    static void cameToTheLesserCoatOfATouch(Check check) {
        RubbedColours x = Check.houseOf("c2 30;p0,60;p0,60;p0,60;p60,0;");
        check.due("coat 0 by one", x.came(0, 0, 30, 1, 30, -1), 1);
        check.due("coat 0 by one, touch 0", x.came(0, 0, 30, 1, 30, 0), 3);
        check.due("coat 2 by one, touch 0", x.came(2, 0, 30, 1, 30, 0), 23);
        // 30 go from 3 to 1 or to 2, then 15 on to the other one from it or from 3; both who have 15 give 8
        check.due("coat 0 by three", x.came(0, 0, 8, 1, 52, -1), 3);
        check.due("rows: 13 and 23, each with 12 or the other, then either of two", x.came(0, 0, 8, 1, 52, -2), 8);
        int[] due = {13, 12, 1};
        for (int i = 0; i < due.length; i++) {
            check.due("the first row, touch " + i, x.came(0, 0, 8, 1, 52, i), due[i]);
        }
    }

    @Edge(promise = 19, says = "how many; rows of so many by which it has: how many;")
    static void rowsOfTheFewestAlone(Check check) {
        RubbedColours x = Check.houseOf("c2 30;p60,0;p0,60;p0,60;");
        // 30 go from 0 to 1, then 15 to 2 from either; or 30 go from 0 to 2, and 15 of them on to 1
        check.due("the fewest", x.came(2, 0, 15, 1, 45, -1), 2);
        check.due("rows: 1 2, 1 12, 2 12", x.came(2, 0, 15, 1, 45, -2), 3);
        RubbedColours six = Check.houseOf("c2 30;p60,0;p60,0;p60,0;p60,0;p60,0;p0,60;");
        check.due("rows of one touch, of five coats", six.came(5, 0, 30, 1, 30, -2), 5);
    }

    @Edge(promise = 19, says = "the first such (TOUCH by TOUCH; two COATS as 10 times the lesser and the other): its i-th TOUCH; NONE.")
    static void theFirstRowTouchByTouch(Check check) {
        RubbedColours x = Check.houseOf("c2 30;p60,0;p0,60;p0,60;");
        check.due("touch 0", x.came(2, 0, 15, 1, 45, 0), 1);
        check.due("touch 1", x.came(2, 0, 15, 1, 45, 1), 2);
        RubbedColours six = Check.houseOf("c2 30;p0,60;p60,0;p60,0;p60,0;p60,0;p60,0;");
        check.due("the lesser coat is told first", six.came(5, 0, 30, 1, 30, 0), 5);
        RubbedColours last = Check.houseOf("c2 30;p60,0;p60,0;p60,0;p60,0;p0,60;p60,0;");
        check.due("the last pair", last.came(5, 0, 30, 1, 30, 0), 45);
    }

    @Edge(promise = 19, says = "CAME: i = NONE the fewest, -2 rows, else the i-th TOUCH; NONE.")
    static void cameAskedForTouchesThatTheRowHasNot(Check check) {
        RubbedColours x = Check.houseOf(CHAIN);
        check.due("touch 2 of 1, 2, 3", x.came(3, 0, 8, 1, 52, 2), 3);
        for (int i : new int[] {3, 4, -3, LEAST, GREATEST}) {
            check.due("i = " + i, x.came(3, 0, 8, 1, 52, i), Check.NONE);
            check.due("i = " + i + ", by none", x.came(0, 0, 60, 1, 0, i), Check.NONE);
        }
    }

    @Edge(promise = 19, says = "CAME: i = NONE the fewest, -2 rows, else the i-th TOUCH; NONE.")
    static void cameNever(Check check) {
        RubbedColours x = Check.houseOf(CHAIN);
        for (int i : new int[] {-1, -2, 0, 1, 2, 3, -3, LEAST, GREATEST}) {
            check.due("more than 60 together, i = " + i, x.came(0, 0, 60, 1, 60, i), Check.NONE);
            check.due("one colour fits alone, i = " + i, x.came(2, 0, 15, 1, 44, i), Check.NONE);
        }
    }

    @Edge(promise = 19, says = "UNKNOWN (COLOURS alike, too), OUTSIDE.")
    static void cameOfWhatThereIsNot(Check check) {
        RubbedColours x = Check.houseOf(CHAIN);
        int[][] unknown = {{4, 0, 1}, {-1, 0, 1}, {GREATEST, 0, 1}, {0, 2, 1}, {0, -1, 1}, {0, 0, 2}, {0, 0, -1}, {0, LEAST, 1}, {0, 0, GREATEST}};
        for (int[] u : unknown) {
            check.due("came(" + u[0] + ", " + u[1] + ", .. " + u[2] + " ..)", x.came(u[0], u[1], 60, u[2], 0, -1), Check.UNKNOWN);
            check.due("and parts outside", x.came(u[0], u[1], 61, u[2], -1, -1), Check.UNKNOWN);
        }
    }

    @Edge(promise = 19, says = "UNKNOWN (COLOURS alike, too), OUTSIDE.")
    static void cameOfColoursAlike(Check check) {
        RubbedColours x = Check.houseOf(CHAIN);
        check.due("colour 0 twice", x.came(0, 0, 60, 0, 60, -1), Check.UNKNOWN);
        check.due("colour 1 twice", x.came(0, 1, 0, 1, 0, -2), Check.UNKNOWN);
        check.due("colour 1 twice, parts outside", x.came(0, 1, -1, 1, 61, 0), Check.UNKNOWN);
    }

    @Edge(promise = 19, says = "UNKNOWN (COLOURS alike, too), OUTSIDE.")
    static void cameToPartsOutside(Check check) {
        RubbedColours x = Check.houseOf(CHAIN);
        for (int v : new int[] {-1, 61, LEAST, GREATEST}) {
            check.due("v = " + v, x.came(0, 0, v, 1, 0, -1), Check.OUTSIDE);
            check.due("u = " + v, x.came(0, 0, 60, 1, v, -1), Check.OUTSIDE);
            check.due("v = " + v + ", another i", x.came(0, 0, v, 1, 0, -3), Check.OUTSIDE);
        }
        check.due("v = 0, u = 60", x.came(1, 0, 0, 1, 60, -1), 0);
        check.due("v = 60, u = 0", x.came(0, 0, 60, 1, 0, -1), 0);
    }

    // ---- 20: met

    @Edge(promise = 20, says = "MET: pairs of COATS by whose one TOUCH from now the one would have v, the other u parts of a COLOUR (either way round):")
    static void metEitherWayRoundButOnceEach(Check check) {
        RubbedColours x = Check.houseOf(SWAP);
        check.due("met(0, 1, 0, 0)", x.met(0, 1, 0, 0), 1);
        check.due("met(0, 0, 1, 0)", x.met(0, 0, 1, 0), 1);
        check.due("both alike count once", Check.houseOf(TWO).met(0, 30, 30, 0), 1);
    }

    @Edge(promise = 20, says = "MET: pairs of COATS by whose one TOUCH from now the one would have v, the other u parts of a COLOUR (either way round):")
    static void metInGloves(Check check) {
        RubbedColours x = Check.houseOf(TWO + "g0;");
        check.due("nothing happens by it", x.met(0, 60, 0, 0), 1);
        check.due("nothing is rubbed off", x.met(0, 30, 30, 0), 0);
    }

    @Edge(promise = 20, says = "how many; the first (10 times the lesser and the other); NONE.")
    static void metByNoneAndByAll(Check check) {
        RubbedColours six = Check.houseOf(SIX);
        check.due("all pairs", six.met(0, 60, 60, 0), 15);
        check.due("the first of all", six.met(0, 60, 60, 1), 1);
        check.due("no pair", six.met(0, 60, 59, 0), 0);
        check.due("the first of none", six.met(0, 60, 59, 1), Check.NONE);
        RubbedColours last = Check.houseOf("c2 30;p60,0;p60,0;p60,0;p60,0;p1,59;p0,60;");
        check.due("the last pair", last.met(0, 1, 0, 1), 45);
        check.due("one coat has no pair", Check.houseOf("c2 1;p60,0;").met(0, 60, 60, 0), 0);
    }

    @Edge(promise = 20, says = "MET: what = 0 how many, 1 the first; NONE.")
    static void metOfNoCoats(Check check) {
        RubbedColours x = Check.houseOf("c2 1;");
        check.due("how many", x.met(1, 0, 0, 0), 0);
        check.due("the first", x.met(1, 0, 0, 1), Check.NONE);
    }

    @Edge(promise = 20, says = "UNKNOWN, OUTSIDE.")
    static void metOutside(Check check) {
        RubbedColours x = Check.houseOf(TWO);
        for (int v : new int[] {-1, 61, LEAST, GREATEST}) {
            check.due("v = " + v, x.met(0, v, 0, 0), Check.OUTSIDE);
            check.due("u = " + v, x.met(0, 0, v, 0), Check.OUTSIDE);
        }
        for (int what : new int[] {-1, 2, LEAST, GREATEST}) {
            check.due("what = " + what, x.met(0, 30, 30, what), Check.OUTSIDE);
        }
    }

    @Edge(promise = 20, says = "UNKNOWN, OUTSIDE.")
    static void metOfAColourThatThereIsNot(Check check) {
        RubbedColours x = Check.houseOf(TWO);
        for (int c : new int[] {-1, 2, LEAST, GREATEST}) {
            check.due("c = " + c, x.met(c, 30, 30, 0), Check.UNKNOWN);
            check.due("c = " + c + ", all outside", x.met(c, -1, 61, 2), Check.UNKNOWN);
        }
    }

    // ---- 21: leftOut

    @Edge(promise = 21, says = "LEFT OUT so that at THE DAY's end a COAT has v parts at most of a COLOUR: the fewest TOUCHES of THE DAY that are left out;")
    static void noneMustBeLeftOut(Check check) {
        RubbedColours x = Check.houseOf(CHAIN);
        check.due("as many as v, how many", x.leftOut(3, 0, 8, 0), 0);
        check.due("as many as v, the set", x.leftOut(3, 0, 8, 1), 0);
        check.due("v = 60", x.leftOut(0, 0, 60, 0), 0);
        check.due("no day", Check.houseOf(SWAP).leftOut(0, 0, 1, 0), 0);
    }

    @Edge(promise = 21, says = "LEFT OUT so that at THE DAY's end a COAT has v parts at most of a COLOUR: the fewest TOUCHES of THE DAY that are left out;")
    static void allTenMustBeLeftOut(Check check) {
        RubbedColours x = Check.houseOf(TWO + TEN);
        check.due("how many", x.leftOut(1, 0, 0, 0), 10);
        check.due("the set", x.leftOut(1, 0, 0, 1), 1023);
    }

    @Edge(promise = 21, says = "LEFT OUT so that at THE DAY's end a COAT has v parts at most of a COLOUR: the fewest TOUCHES of THE DAY that are left out;")
    static void theFewestComeAheadOfTheLeastSet(Check check) {
        // without touches 0 and 1 (a lesser set), or without touch 3 alone
        RubbedColours x = Check.houseOf("c2 30;p60,0;p0,60;p0,60;p0,60;t0 1,0 2,1 2,2 3;");
        check.due("how many", x.leftOut(3, 0, 0, 0), 1);
        check.due("the set", x.leftOut(3, 0, 0, 1), 8);
    }

    @Edge(promise = 21, says = "of like ones the least SET; NONE.")
    static void theLeastSetOfLikeOnes(Check check) {
        RubbedColours x = Check.houseOf(CHAIN);
        check.due("1, 2 and 4 would do", x.leftOut(3, 0, 7, 1), 1);
        RubbedColours two = Check.houseOf("c2 30;p60,0;p0,60;p0,60;t0 1,0 1,1 2,1 2;");
        // without 0 and 1 (set 3), or 2 and 3 (set 12)
        check.due("of two, how many", two.leftOut(2, 0, 0, 0), 2);
        check.due("of two", two.leftOut(2, 0, 0, 1), 3);
        // coat 2 has 37 at the end, 30 without 1 and 2 (set 6), and without 0 and 3 (set 9)
        RubbedColours cross = Check.houseOf("c2 30;p60,0;p60,0;p0,60;t0 2,1 2,2 1,0 2;");
        check.due("the least number, not the least first touch, how many", cross.leftOut(2, 0, 30, 0), 2);
        check.due("the least number, not the least first touch", cross.leftOut(2, 0, 30, 1), 6);
    }

    @Edge(promise = 21, says = "LEFT OUT: what = 0 how many, 1 the SET; NONE.")
    static void leavingOutDoesNotHelp(Check check) {
        RubbedColours x = Check.houseOf(CHAIN);
        check.due("how many", x.leftOut(0, 0, 29, 0), Check.NONE);
        check.due("the set", x.leftOut(0, 0, 29, 1), Check.NONE);
        check.due("no day", Check.houseOf(SWAP).leftOut(0, 0, 0, 0), Check.NONE);
        x.glove(0, true);
        check.due("in gloves", x.leftOut(0, 0, 59, 0), Check.NONE);
    }

    @Edge(promise = 21, says = "UNKNOWN, OUTSIDE.")
    static void leftOutOutside(Check check) {
        RubbedColours x = Check.houseOf(CHAIN);
        for (int v : new int[] {-1, 61, LEAST, GREATEST}) {
            check.due("v = " + v, x.leftOut(0, 0, v, 0), Check.OUTSIDE);
        }
        for (int what : new int[] {-1, 2, LEAST, GREATEST}) {
            check.due("what = " + what, x.leftOut(0, 0, 60, what), Check.OUTSIDE);
        }
    }

    @Edge(promise = 21, says = "UNKNOWN, OUTSIDE.")
    static void leftOutOfWhatThereIsNot(Check check) {
        RubbedColours x = Check.houseOf(CHAIN);
        int[][] unknown = {{4, 0}, {-1, 0}, {GREATEST, 0}, {0, 2}, {0, -1}, {0, LEAST}};
        for (int[] u : unknown) {
            check.due("leftOut(" + u[0] + ", " + u[1] + ", 60, 0)", x.leftOut(u[0], u[1], 60, 0), Check.UNKNOWN);
            check.due("and outside", x.leftOut(u[0], u[1], 61, 2), Check.UNKNOWN);
        }
    }

    // ---- 22: washes

    @Edge(promise = 22, says = "WASH at THE DAY's end so that no COAT has more than v parts of a COLOUR: the COATS that have more (a SET);")
    static void exactlyVIsNotMore(Check check) {
        // at the end coats 0 to 2 have of colour 0: 45, 22, 23
        RubbedColours x = Check.houseOf("c2 30;p30,30;p60,0;p0,60;t0 1,1 2;");
        check.due("45 of 45", x.washes(0, 45), 0);
        check.due("45 of 44", x.washes(0, 44), 1);
        check.due("v = 60", x.washes(0, 60), 0);
        check.due("v = 60, the other colour", x.washes(1, 60), 0);
    }

    @Edge(promise = 22, says = "WASH at THE DAY's end so that no COAT has more than v parts of a COLOUR: the COATS that have more (a SET);")
    static void washedAtTheEndNotNow(Check check) {
        RubbedColours x = Check.houseOf(TWO + "t0 1;");
        check.due("60 now, 30 at the end", x.washes(0, 30), 0);
        // 0 now, 30 at the end, 0 of its own; coat 0 has 30, and 60 of its own
        check.due("coat 0 cannot be washed", x.washes(0, 29), Check.NONE);
        RubbedColours no = Check.houseOf("c2 30;");
        check.due("no coats", no.washes(0, 0), 0);
    }

    @Edge(promise = 22, says = "WASH at THE DAY's end so that no COAT has more than v parts of a COLOUR: the COATS that have more (a SET);")
    static void theLastCoatIsBit5(Check check) {
        // at the end coats 0, 4, 5 have of colour 0: 15, 15, 30
        RubbedColours x = Check.houseOf("c2 30;p0,60;p0,60;p0,60;p0,60;p60,0;p0,60;t4 5,4 0;");
        check.due("more than 29", x.washes(0, 29), 32);
        check.due("more than 15", x.washes(0, 15), 32);
        check.due("more than 30", x.washes(0, 30), 0);
    }

    @Edge(promise = 22, says = "NONE: one of them is a DOG, or has more of its own.")
    static void aDogOrMoreOfItsOwn(Check check) {
        String text = "c2 30;p30,30;p60,0;p0,60;t0 1,1 2;";
        check.due("no dog", Check.houseOf(text).washes(0, 44), 1);
        check.due("a dog", Check.houseOf(text + "h0;").washes(0, 44), Check.NONE);
        check.due("a dog that has exactly v", Check.houseOf(text + "h0;").washes(0, 45), 0);
        check.due("another dog", Check.houseOf(text + "h1;").washes(0, 44), 1);
        check.due("exactly v of its own", Check.houseOf(text).washes(0, 30), 1);
        check.due("more of its own", Check.houseOf(text).washes(0, 29), Check.NONE);
        // at the end coats 0 to 3 have of colour 0: 30, 15, 7, 8
        String more = "c2 30;p0,60;p0,60;p60,0;p0,60;t0 2,1 2,2 3;";
        check.due("two of them", Check.houseOf(more).washes(0, 14), 3);
        check.due("two of them, the second is a dog", Check.houseOf(more + "h1;").washes(0, 14), Check.NONE);
        check.due("two of them, another is a dog", Check.houseOf(more + "h3;").washes(0, 14), 3);
    }

    @Edge(promise = 22, says = "WASH: the SET; NONE.")
    static void washesOfSeveral(Check check) {
        // at the end coats 0 to 2 have of colour 0: 30, 15, 15
        RubbedColours x = Check.houseOf("c2 30;p0,60;p0,60;p60,0;t0 2,1 2;");
        check.due("one", x.washes(0, 15), 1);
        check.due("all, but coat 2 has more of its own", x.washes(0, 14), Check.NONE);
        x.glove(2, true);
        check.due("in gloves, 60 on coat 2", x.washes(0, 59), Check.NONE);
    }

    @Edge(promise = 22, says = "UNKNOWN, OUTSIDE.")
    static void washesOutside(Check check) {
        RubbedColours x = Check.houseOf(TWO);
        for (int v : new int[] {-1, 61, LEAST, GREATEST}) {
            check.due("v = " + v, x.washes(0, v), Check.OUTSIDE);
        }
    }

    @Edge(promise = 22, says = "UNKNOWN, OUTSIDE.")
    static void washesOfAColourThatThereIsNot(Check check) {
        RubbedColours x = Check.houseOf(TWO);
        for (int c : new int[] {-1, 2, LEAST, GREATEST}) {
            check.due("c = " + c, x.washes(c, 60), Check.UNKNOWN);
            check.due("c = " + c + ", outside", x.washes(c, 61), Check.UNKNOWN);
        }
    }

    // ---- 23: rest

    @Edge(promise = 23, says = "REST: the fewest times THE DAY (0 .. 200) behind which THE DAY changes no COAT; NONE;")
    static void atRestNow(Check check) {
        check.due("no day", Check.houseOf(TWO).rest(-1, 0), 0);
        check.due("no coats", Check.houseOf("c2 1;").rest(-1, 0), 0);
        check.due("all alike", Check.houseOf("c2 30;p60,0;p60,0;t0 1;").rest(-1, 0), 0);
        check.due("in gloves", Check.houseOf(TWO + "g0;t0 1;").rest(-1, 0), 0);
        RubbedColours x = Check.houseOf(TWO + "t0 1;");
        check.due("behind one day", x.rest(-1, 0), 1);
        x.day();
        check.due("behind none more", x.rest(-1, 0), 0);
    }

    @Edge(promise = 23, says = "REST: the fewest times THE DAY (0 .. 200) behind which THE DAY changes no COAT; NONE;")
    static void neverAtRest(Check check) {
        RubbedColours x = Check.houseOf(SWAP + "t0 1;");
        check.due("rest(-1, 0)", x.rest(-1, 0), Check.NONE);
        check.due("rest(0, 0)", x.rest(0, 0), Check.NONE);
        check.due("rest(1, 1)", x.rest(1, 1), Check.NONE);
        check.due("there and back is no change", Check.houseOf(SWAP + "t0 1,0 1;").rest(-1, 0), 0);
        check.due("there, back and there", Check.houseOf(SWAP + "t0 1,0 1,0 1;").rest(-1, 0), Check.NONE);
    }

    @Edge(promise = 23, says = "REST: the fewest times THE DAY (0 .. 200) behind which THE DAY changes no COAT; NONE;")
    static void aLongWayToRest(Check check) {
        // the longest way that a search found: no house is known that could show the bound itself
        RubbedColours x = Check.houseOf("c5 1;p15,14,11,12,8;p60,0,0,0,0;p0,57,0,0,3;p0,0,60,0,0;p0,0,0,60,0;p0,0,0,0,60;t0 1,0 4,5 0,2 0,0 3;");
        check.due("rest(-1, 0)", x.rest(-1, 0), 154);
        int atRest = x.rest(0, 0);
        for (int day = 1; day <= 153; day++) {
            x.day();
        }
        check.due("behind 153 days one more", x.rest(-1, 0), 1);
        x.day();
        check.due("behind 154 days", x.rest(-1, 0), 0);
        check.due("parts(0, 0) then", x.parts(0, 0), atRest);
    }

    @Edge(promise = 23, says = "how many parts of a COLOUR a COAT has then.")
    static void partsAtRest(Check check) {
        RubbedColours x = Check.houseOf(TWO + "t0 1;");
        check.due("rest(0, 0)", x.rest(0, 0), 30);
        check.due("rest(1, 1)", x.rest(1, 1), 30);
        check.due("at once", Check.houseOf(SWAP).rest(0, 1), 59);
    }

    @Edge(promise = 23, says = "REST: a = NONE how many times (whatever c is), else parts of a COLOUR on a COAT then; NONE.")
    static void whateverTheColourIs(Check check) {
        RubbedColours x = Check.houseOf(TWO + "t0 1;");
        for (int c : new int[] {-1, 2, 99, LEAST, GREATEST}) {
            check.due("rest(-1, " + c + ")", x.rest(-1, c), 1);
            check.due("rest(-1, " + c + ") without a house", new RubbedColours().rest(-1, c), 0);
        }
    }

    @Edge(promise = 23, says = "UNKNOWN.")
    static void restOfWhatThereIsNot(Check check) {
        RubbedColours x = Check.houseOf(SWAP + "t0 1;");
        int[][] unknown = {{2, 0}, {-2, 0}, {LEAST, 0}, {GREATEST, 0}, {0, 2}, {0, -1}, {0, LEAST}, {0, GREATEST}};
        for (int[] u : unknown) {
            check.due("rest(" + u[0] + ", " + u[1] + ")", x.rest(u[0], u[1]), Check.UNKNOWN);
        }
    }

    // ---- 24: rain

    @Edge(promise = 24, says = "RAIN: COATS that have more than v parts of a COLOUR now, but DOGS, are washed by it,")
    static void rainOnThoseWithMoreAlone(Check check) {
        RubbedColours x = Check.houseOf("c2 30;p60,0;p30,30;p0,60;");
        check.due("more than 60", x.rain(0, 60, 50), 1000000000);
        check.due("more than 59", x.rain(0, 59, 50), 500000000);
        check.due("more than 30", x.rain(0, 30, 50), 500000000);
        check.due("more than 29", x.rain(0, 29, 50), 250000000);
        check.due("more than 0", x.rain(0, 0, 50), 250000000);
        x.touch(0, 2);
        check.due("now", x.rain(0, 29, 50), 125000000);
    }

    @Edge(promise = 24, says = "RAIN: COATS that have more than v parts of a COLOUR now, but DOGS, are washed by it,")
    static void rainOnDogs(Check check) {
        check.due("one of two is a dog", Check.houseOf("c2 1;p60,0;p60,0;h1;").rain(0, 0, 10), 100000000);
        check.due("both are dogs", Check.houseOf("c2 1;p60,0;p60,0;h1;h0;").rain(0, 0, 10), 1000000000);
        check.due("gloves help nobody", Check.houseOf("c2 1;p60,0;p60,0;g1;").rain(0, 0, 10), 10000000);
    }

    @Edge(promise = 24, says = "each by q of a hundred (0 .. 100): odds that all are:")
    static void neverAndAlways(Check check) {
        RubbedColours x = Check.houseOf(SIX);
        check.due("q = 0", x.rain(0, 0, 0), 0);
        check.due("q = 100", x.rain(0, 0, 100), 1000000000);
        check.due("q = 0, nobody", x.rain(1, 0, 0), 1000000000);
        check.due("no coats", Check.houseOf("c2 1;").rain(0, 0, 0), 1000000000);
    }

    @Edge(promise = 24, says = "RAIN.")
    static void nobodyIsWashedByAsking(Check check) {
        RubbedColours x = Check.houseOf(TWO);
        x.touch(0, 1);
        check.due("rain(0, 0, 100)", x.rain(0, 0, 100), 1000000000);
        check.due("parts(0, 0)", x.parts(0, 0), 30);
        check.due("soap", x.told(7), 0);
        check.due("told(11)", x.told(11), 1);
    }

    @Edge(promise = 24, says = "a BILLION times q / 100 for each (cut).")
    static void sixAreCutOneByOne(Check check) {
        RubbedColours x = Check.houseOf(SIX);
        check.due("q = 1", x.rain(0, 0, 1), 0);
        check.due("q = 99", x.rain(0, 0, 99), 941480148);
        check.due("q = 33", x.rain(0, 0, 33), 1291467);
        check.due("q = 3", x.rain(0, 0, 3), 0);
        check.due("q = 4", x.rain(0, 0, 4), 4);
    }

    @Edge(promise = 24, says = "UNKNOWN, OUTSIDE.")
    static void rainOutside(Check check) {
        RubbedColours x = Check.houseOf(TWO);
        for (int v : new int[] {-1, 61, LEAST, GREATEST}) {
            check.due("v = " + v, x.rain(0, v, 50), Check.OUTSIDE);
        }
        for (int q : new int[] {-1, 101, LEAST, GREATEST}) {
            check.due("q = " + q, x.rain(0, 0, q), Check.OUTSIDE);
        }
    }

    @Edge(promise = 24, says = "UNKNOWN, OUTSIDE.")
    static void rainOfAColourThatThereIsNot(Check check) {
        RubbedColours x = Check.houseOf(TWO);
        for (int c : new int[] {-1, 2, LEAST, GREATEST}) {
            check.due("c = " + c, x.rain(c, 0, 50), Check.UNKNOWN);
            check.due("c = " + c + ", all outside", x.rain(c, 61, 101), Check.UNKNOWN);
        }
    }

    // ---- 25: blend

    @Edge(promise = 25, says = "BLEND of a SET of COATS: how many parts of a COLOUR they have together / how many they are (cut);")
    static void blendIsCut(Check check) {
        RubbedColours x = Check.houseOf("c2 30;p60,0;p1,59;p0,60;");
        check.due("1 and 0", x.blend(6, 0), 0);
        check.due("59 and 60", x.blend(6, 1), 59);
        check.due("61 of three", x.blend(7, 0), 20);
        check.due("119 of three", x.blend(7, 1), 39);
    }

    @Edge(promise = 25, says = "BLEND of a SET of COATS: how many parts of a COLOUR they have together / how many they are (cut);")
    static void blendOfOneAndOfAllSix(Check check) {
        RubbedColours x = Check.houseOf(SIX);
        check.due("the last alone", x.blend(32, 0), 60);
        check.due("all six", x.blend(63, 0), 60);
        check.due("all six of a colour they have not", x.blend(63, 4), 0);
    }

    @Edge(promise = 25, says = "NONE for the empty one.")
    static void blendOfNobody(Check check) {
        check.due("blend(0, 0)", Check.houseOf(TWO).blend(0, 0), Check.NONE);
        check.due("blend(0, 1) without coats", Check.houseOf("c2 1;").blend(0, 1), Check.NONE);
    }

    @Edge(promise = 25, says = "UNKNOWN.")
    static void blendOfBitsOfCoatsThatThereAreNot(Check check) {
        RubbedColours x = Check.houseOf(TWO);
        for (int set : new int[] {4, 5, 8, 1 << 30, -1, LEAST, GREATEST}) {
            check.due("blend(" + set + ", 0)", x.blend(set, 0), Check.UNKNOWN);
        }
        check.due("blend(3, 0)", x.blend(3, 0), 30);
        check.due("blend(64, 0) of six", Check.houseOf(SIX).blend(64, 0), Check.UNKNOWN);
        check.due("blend(1, 0) without coats", Check.houseOf("c2 1;").blend(1, 0), Check.UNKNOWN);
    }

    @Edge(promise = 25, says = "BLEND; NONE.")
    static void blendOfNow(Check check) {
        RubbedColours x = Check.houseOf(TWO);
        x.touch(0, 1);
        check.due("blend(1, 0)", x.blend(1, 0), 30);
        x.wash(0);
        check.due("blend(3, 0)", x.blend(3, 0), 45);
    }

    @Edge(promise = 25, says = "UNKNOWN.")
    static void blendOfAColourThatThereIsNot(Check check) {
        RubbedColours x = Check.houseOf(TWO);
        for (int c : new int[] {-1, 2, LEAST, GREATEST}) {
            check.due("blend(3, " + c + ")", x.blend(3, c), Check.UNKNOWN);
            check.due("blend(0, " + c + "), the empty one", x.blend(0, c), Check.UNKNOWN);
        }
    }
}
