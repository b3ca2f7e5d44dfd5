/** Boundary cases of promises 10 to 15: touch, glove, wash, day, drift, undo. */
public final class EdgesOfDeedsTest {
    private static final String TWO = "c2 30;p60,0;p0,60;";
    private static final String SIX = "c2 30;p60,0;p0,60;p60,0;p0,60;p60,0;p0,60;";
    /** Each coat has a colour of its own, so that parts tell who touched whom. */
    private static final String THREE = "c3 30;p60,0,0;p0,60,0;p0,0,60;";
    private static final int LEAST = Integer.MIN_VALUE;
    private static final int GREATEST = Integer.MAX_VALUE;

    public static void main(String[] args) {
        Edges.run(EdgesOfDeedsTest.class);
    }

    /** THE SEED once more, by whole numbers without any wrap-around. */
    private static final class Draws {
        long seed;

        Draws(long seed) {
            this.seed = seed;
        }

        int of(int n) {
            seed = (seed * 1103515245L + 12345L) % 2147483648L;
            return (int) (seed / 65536 % n);
        }
    }

    // ---- 10: touch

    @Edge(promise = 10, says = "A TOUCH: how many parts the first one has otherwise by it (all COLOURS' differences above 0, together).")
    static void aTouchThatChangesNothing(Check check) {
        RubbedColours x = Check.houseOf("c2 30;p60,0;p60,0;");
        check.due("touch(0, 1) of like ones", x.touch(0, 1), 0);
        check.due("told(8)", x.told(8), 1);
        check.due("told(11)", x.told(11), 1);
    }

    @Edge(promise = 10, says = "A TOUCH: how many parts the first one has otherwise by it (all COLOURS' differences above 0, together).")
    static void aTouchThatChangesMost(Check check) {
        check.due("one colour more", Check.houseOf(TWO).touch(0, 1), 30);
        check.due("two colours more", Check.houseOf("c4 30;p30,30,0,0;p0,0,30,30;").touch(0, 1), 30);
        check.due("four colours more", Check.houseOf("c5 30;p60,0,0,0,0;p0,15,15,15,15;").touch(0, 1), 30);
        check.due("one more, four less", Check.houseOf("c5 30;p60,0,0,0,0;p0,15,15,15,15;").touch(1, 0), 30);
        check.due("the last two of six", Check.houseOf(SIX).touch(5, 4), 30);
    }

    @Edge(promise = 10, says = "UNKNOWN.")
    static void aTouchOfACoatThatThereIsNot(Check check) {
        RubbedColours x = Check.houseOf(TWO);
        int[][] unknown = {{0, 2}, {2, 0}, {0, -1}, {-1, 0}, {LEAST, 0}, {0, GREATEST}, {7, 7}};
        for (int[] u : unknown) {
            check.due("touch(" + u[0] + ", " + u[1] + ")", x.touch(u[0], u[1]), Check.UNKNOWN);
        }
        check.due("touch(0, 6) of six", Check.houseOf(SIX).touch(0, 6), Check.UNKNOWN);
        check.due("told(8)", x.told(8), 0);
        check.due("told(11)", x.told(11), 0);
    }

    @Edge(promise = 10, says = "UNKNOWN.")
    static void aTouchOfOneCoatTwice(Check check) {
        RubbedColours x = Check.houseOf(TWO);
        check.due("touch(0, 0)", x.touch(0, 0), Check.UNKNOWN);
        check.due("touch(1, 1)", x.touch(1, 1), Check.UNKNOWN);
        check.due("told(8)", x.told(8), 0);
    }

    @Edge(promise = 10, says = "A TOUCH of two COATS: if one wears GLOVES, nothing happens;")
    static void glovesOfEitherOrBoth(Check check) {
        for (String gloves : new String[] {"g0;", "g1;", "g0;g1;"}) {
            RubbedColours x = Check.houseOf(TWO + gloves);
            check.due(gloves + " touch(0, 1)", x.touch(0, 1), 0);
            check.due(gloves + " touch(1, 0)", x.touch(1, 0), 0);
            check.due(gloves + " parts(0, 0)", x.parts(0, 0), 60);
            check.due(gloves + " parts(1, 0)", x.parts(1, 0), 0);
        }
        RubbedColours third = Check.houseOf(TWO + "p60,0;g2;");
        check.due("gloves of a third", third.touch(0, 1), 30);
    }

    @Edge(promise = 10, says = "else each GIVES to the other one, both at once.")
    static void bothGiveAtOnce(Check check) {
        // one part and none: the one gives it away and gets none of it back
        RubbedColours x = Check.houseOf("c2 30;p1,59;p0,60;");
        check.due("touch(0, 1)", x.touch(0, 1), 1);
        check.due("parts(0, 0)", x.parts(0, 0), 0);
        check.due("parts(1, 0)", x.parts(1, 0), 1);
        check.due("touch(0, 1) again", x.touch(0, 1), 1);
        check.due("parts(0, 0) again", x.parts(0, 0), 1);
        check.due("parts(1, 0) again", x.parts(1, 0), 0);
    }

    @Edge(promise = 10, says = "A COAT has parts of COLOURS, 60 together always.")
    static void sixtyTogetherAlways(Check check) {
        for (int k = 1; k <= 30; k++) {
            RubbedColours x = Check.houseOf("c5 " + k + ";p60,0,0,0,0;p0,59,1,0,0;p1,1,1,1,56;p12,12,12,12,12;");
            x.seed(k);
            for (int n = 0; n < 10; n++) {
                x.drift(1 + n);
                for (int a = 0; a < 4; a++) {
                    int sum = 0;
                    for (int c = 0; c < 5; c++) {
                        check.holds("no part below 0", x.parts(a, c) >= 0);
                        sum += x.parts(a, c);
                    }
                    check.due("K " + k + ", parts of " + a, sum, 60);
                }
            }
        }
    }

    @Edge(promise = 10, says = "TOUCHES are counted (with GLOVES, too).")
    static void touchesInGlovesAreCounted(Check check) {
        RubbedColours x = Check.houseOf(TWO + "g0;");
        x.touch(0, 1);
        check.due("told(8)", x.told(8), 1);
        check.due("told(11)", x.told(11), 1);
    }

    // ---- 11: glove

    @Edge(promise = 11, says = "A COAT puts GLOVES on (is), or off: 1 it wore them, 0 not.")
    static void glovesOnTwiceAndOffTwice(Check check) {
        RubbedColours x = Check.houseOf(SIX);
        check.due("on", x.glove(5, true), 0);
        check.due("on again", x.glove(5, true), 1);
        check.due("told(5)", x.told(5), 32);
        check.due("off", x.glove(5, false), 1);
        check.due("off again", x.glove(5, false), 0);
        check.due("told(5)", x.told(5), 0);
        check.due("told(11): what changes nothing is kept, too", x.told(11), 4);
    }

    @Edge(promise = 11, says = "UNKNOWN, NOT: a DOG.")
    static void glovesOfACoatThatThereIsNot(Check check) {
        RubbedColours x = Check.houseOf(SIX);
        for (int a : new int[] {-1, 6, 32, LEAST, GREATEST}) {
            check.due("glove(" + a + ", true)", x.glove(a, true), Check.UNKNOWN);
            check.due("glove(" + a + ", false)", x.glove(a, false), Check.UNKNOWN);
        }
        check.due("told(5)", x.told(5), 0);
        check.due("told(11)", x.told(11), 0);
    }

    @Edge(promise = 11, says = "UNKNOWN, NOT: a DOG.")
    static void glovesOfADog(Check check) {
        RubbedColours x = Check.houseOf(SIX + "h5;");
        check.due("glove(5, true)", x.glove(5, true), Check.NOT);
        check.due("glove(5, false)", x.glove(5, false), Check.NOT);
        check.due("glove(4, true): no dog", x.glove(4, true), 0);
        check.due("told(5)", x.told(5), 16);
        check.due("told(11)", x.told(11), 1);
    }

    // ---- 12: wash

    @Edge(promise = 12, says = "A COAT is WASHED: SOAP.")
    static void aWashingThatChangesNothing(Check check) {
        RubbedColours x = Check.houseOf(TWO);
        check.due("wash(0), clean", x.wash(0), 1);
        check.due("wash(0), clean again", x.wash(0), 2);
        check.due("told(11)", x.told(11), 2);
        check.due("told(8)", x.told(8), 0);
    }

    @Edge(promise = 12, says = "WASHED: a COAT has its own parts again (as told).")
    static void ownPartsAgain(Check check) {
        RubbedColours x = Check.houseOf("c5 30;p10,11,12,13,14;p60,0,0,0,0;");
        x.touch(0, 1);
        x.keep(0);
        x.wash(0);
        for (int c = 0; c < 5; c++) {
            check.due("parts(0, " + c + ")", x.parts(0, c), 10 + c);
        }
        check.due("parts(1, 0) stay", x.parts(1, 0), 35);
    }

    @Edge(promise = 12, says = "SOAP is how often it was used;")
    static void soapInGlovesAndByDraws(Check check) {
        RubbedColours x = Check.houseOf(TWO + "g0;");
        check.due("wash(0) in gloves", x.wash(0), 1);
        check.due("gloves stay", x.told(5), 1);
        x.seed(1);
        Draws draws = new Draws(1);
        int washed = 1;
        for (int n = 0; n < 40; n++) {
            draws.of(2);
            draws.of(1);
            if (draws.of(9) == 0) {
                draws.of(2);
                washed++;
            }
        }
        x.drift(40);
        check.holds("the draws wash", washed > 1);
        check.due("told(7)", x.told(7), washed);
    }

    @Edge(promise = 12, says = "UNKNOWN, NOT: a DOG.")
    static void aWashingOfACoatThatThereIsNot(Check check) {
        RubbedColours x = Check.houseOf(SIX);
        for (int a : new int[] {-1, 6, 32, LEAST, GREATEST}) {
            check.due("wash(" + a + ")", x.wash(a), Check.UNKNOWN);
        }
        check.due("told(7)", x.told(7), 0);
        check.due("told(11)", x.told(11), 0);
    }

    @Edge(promise = 12, says = "UNKNOWN, NOT: a DOG.")
    static void aWashingOfADog(Check check) {
        RubbedColours x = Check.houseOf(TWO + "h1;");
        x.touch(0, 1);
        check.due("wash(1)", x.wash(1), Check.NOT);
        check.due("parts(1, 0)", x.parts(1, 0), 30);
        check.due("told(7)", x.told(7), 0);
        check.due("told(11)", x.told(11), 1);
    }

    // ---- 13: day

    @Edge(promise = 13, says = "THE DAY, all TOUCHES: TOUCHES.")
    static void aDayOfOneTouchAndOfTen(Check check) {
        check.due("one", Check.houseOf(TWO + "t0 1;").day(), 1);
        RubbedColours x = Check.houseOf(SIX + "t0 1,1 2,2 3,3 4,4 5,5 0,0 2,1 3,2 4,5 3;");
        x.touch(0, 1);
        check.due("ten, behind one", x.day(), 11);
        check.due("ten more", x.day(), 21);
        check.due("told(8)", x.told(8), 21);
        check.due("told(11)", x.told(11), 3);
    }

    @Edge(promise = 13, says = "THE DAY, all TOUCHES: TOUCHES.")
    static void aDayInGlovesIsCounted(Check check) {
        RubbedColours x = Check.houseOf(TWO + "g0;t0 1,1 0;");
        check.due("day()", x.day(), 2);
        check.due("parts(0, 0)", x.parts(0, 0), 60);
    }

    @Edge(promise = 13, says = "THE DAY goes on touch by touch.")
    static void eachTouchGoesOnFromTheOneAhead(Check check) {
        RubbedColours x = Check.houseOf("c2 30;p60,0;p0,60;p0,60;t0 1,1 2;");
        x.day();
        check.due("parts(2, 0)", x.parts(2, 0), 15);
        RubbedColours turned = Check.houseOf("c2 30;p60,0;p0,60;p0,60;t1 2,0 1;");
        turned.day();
        check.due("parts(2, 0), the other way", turned.parts(2, 0), 0);
    }

    @Edge(promise = 13, says = "NOT: there is none.")
    static void noDay(Check check) {
        RubbedColours x = Check.houseOf(TWO);
        check.due("day()", x.day(), Check.NOT);
        check.due("told(8)", x.told(8), 0);
        check.due("told(11)", x.told(11), 0);
        check.due("day() of no coats", Check.houseOf("c2 1;").day(), Check.NOT);
    }

    // ---- 14: drift

    @Edge(promise = 14, says = "n steps (1 .. 99) BY DRAWS: TOUCHES.")
    static void oneStepAnd99(Check check) {
        RubbedColours x = Check.houseOf(TWO);
        check.due("drift(1)", x.drift(1), 1);
        check.due("drift(99)", x.drift(99), 100);
        check.due("told(11)", x.told(11), 2);
    }

    @Edge(promise = 14, says = "OUTSIDE, NOT: fewer than two COATS.")
    static void tooFewStepsAndTooMany(Check check) {
        RubbedColours x = Check.houseOf(TWO);
        for (int n : new int[] {0, -1, LEAST, 100, GREATEST}) {
            check.due("drift(" + n + ")", x.drift(n), Check.OUTSIDE);
        }
        check.due("told(8)", x.told(8), 0);
        check.due("told(11)", x.told(11), 0);
        check.due("no draw", x.seed(0), 0);
    }

    @Edge(promise = 14, says = "OUTSIDE, NOT: fewer than two COATS.")
    static void fewerThanTwoCoats(Check check) {
        RubbedColours one = Check.houseOf("c2 1;p60,0;");
        check.due("one coat", one.drift(1), Check.NOT);
        check.due("no draw", one.seed(0), 0);
        check.due("one coat, outside", one.drift(0), Check.OUTSIDE);
        check.due("no coat", Check.houseOf("c2 1;").drift(99), Check.NOT);
        check.due("no coat, outside", Check.houseOf("c2 1;").drift(100), Check.OUTSIDE);
        check.due("two coats", Check.houseOf(TWO).drift(1), 1);
    }

    @Edge(promise = 14, says = "BY DRAWS: THE SEED (0 at first: each DRAW it becomes it times 1103515245 and 12345, left over by 2 to the 31;")
    static void theSeedIsLeftOverBy2ToThe31(Check check) {
        for (int first : new int[] {0, 1, 65535, 65536, 1073741823, 1073741824, 2147483646, GREATEST}) {
            RubbedColours x = Check.houseOf(TWO);
            check.due("0 at first", x.seed(first), 0);
            Draws draws = new Draws(first);
            draws.of(2);
            draws.of(1);
            if (draws.of(9) == 0) {
                draws.of(2);
            }
            x.drift(1);
            check.due("seed " + first + " behind a step", x.seed(0), draws.seed);
        }
    }

    @Edge(promise = 14, says = "the DRAW of n is it / 65536, left over by n): n steps: a DRAW of COATS, a DRAW of COATS less one")
    static void aDrawOfTwoCoatsLessOneIsSpentToo(Check check) {
        RubbedColours x = Check.houseOf(TWO);
        Draws draws = new Draws(0);
        for (int step = 0; step < 99; step++) {
            draws.of(2);
            draws.of(1);
            if (draws.of(9) == 0) {
                draws.of(2);
            }
        }
        check.due("drift(99)", x.drift(99), 99);
        check.due("the seed", x.seed(0), draws.seed);
    }

    @Edge(promise = 14, says = "(the second one is that many and one behind the first, round the end): a TOUCH of both;")
    static void theSecondCoatIsCountedRoundTheEnd(Check check) {
        boolean[][] met = new boolean[3][3];
        for (int seed = 0; seed < 200; seed++) {
            Draws draws = new Draws(seed);
            int a = draws.of(3);
            int b = (a + 1 + draws.of(2)) % 3;
            if (draws.of(9) == 0) {
                continue;
            }
            RubbedColours x = Check.houseOf(THREE);
            x.seed(seed);
            x.drift(1);
            met[a][b] = true;
            for (int coat = 0; coat < 3; coat++) {
                for (int c = 0; c < 3; c++) {
                    boolean touched = coat == a || coat == b;
                    int due = touched ? (c == a || c == b ? 30 : 0) : (c == coat ? 60 : 0);
                    check.due("seed " + seed + ", parts(" + coat + ", " + c + ")", x.parts(coat, c), due);
                }
            }
        }
        check.holds("the end was gone round", met[2][0] && met[2][1] && met[1][0]);
    }

    @Edge(promise = 14, says = "then a DRAW of 9: on 0 a DRAW of COATS is WASHED (no DOG).")
    static void onNoughtACoatIsWashed(Check check) {
        int[] times = new int[2];
        for (int seed = 0; seed < 400; seed++) {
            Draws draws = new Draws(seed);
            int a = draws.of(3);
            int b = (a + 1 + draws.of(2)) % 3;
            boolean washes = draws.of(9) == 0;
            int washed = washes ? draws.of(3) : -1;
            RubbedColours x = Check.houseOf(THREE);
            x.seed(seed);
            x.drift(1);
            check.due("seed " + seed + ", soap", x.told(7), washes ? 1 : 0);
            check.due("seed " + seed + ", parts(a)", x.parts(a, a), washed == a ? 60 : 30);
            check.due("seed " + seed + ", parts(b)", x.parts(b, b), washed == b ? 60 : 30);
            check.due("seed " + seed + ", the seed behind it", x.seed(0), draws.seed);
            times[washes ? 1 : 0]++;
        }
        check.holds("with and without", times[0] > 0 && times[1] > 0);
    }

    @Edge(promise = 14, says = "then a DRAW of 9: on 0 a DRAW of COATS is WASHED (no DOG).")
    static void aDogIsDrawnButNotWashed(Check check) {
        int dogsDrawn = 0;
        for (int seed = 0; seed < 400; seed++) {
            Draws draws = new Draws(seed);
            int a = draws.of(3);
            int b = (a + 1 + draws.of(2)) % 3;
            if (draws.of(9) != 0 || draws.of(3) != a) {
                continue;
            }
            RubbedColours x = Check.houseOf(THREE + "h" + a + ";");
            x.seed(seed);
            x.drift(1);
            dogsDrawn++;
            check.due("seed " + seed + ", soap", x.told(7), 0);
            check.due("seed " + seed + ", parts(" + a + ", " + b + ")", x.parts(a, b), 30);
            check.due("seed " + seed + ", the draw is spent", x.seed(0), draws.seed);
        }
        check.holds("dogs were drawn", dogsDrawn > 0);
    }

    @Edge(promise = 14, says = "a TOUCH of both;")
    static void aStepInGlovesIsCounted(Check check) {
        RubbedColours x = Check.houseOf(TWO + "g0;g1;");
        check.due("drift(5)", x.drift(5), 5);
        check.due("parts(0, 0)", x.parts(0, 0), 60);
    }

    // ---- 15: undo

    @Edge(promise = 15, says = "The latest is undone: how many more can be.")
    static void theLatestFirst(Check check) {
        RubbedColours x = Check.houseOf(TWO);
        x.touch(0, 1);
        x.wash(0);
        check.due("undo()", x.undo(), 1);
        check.due("the washing is undone", x.parts(0, 0), 30);
        check.due("undo()", x.undo(), 0);
        check.due("the touch is undone", x.parts(0, 0), 60);
    }

    @Edge(promise = 15, says = "NOT: none.")
    static void nothingToUndo(Check check) {
        RubbedColours x = Check.houseOf(TWO);
        check.due("ahead of all", x.undo(), Check.NOT);
        x.touch(0, 1);
        x.undo();
        check.due("behind the only one", x.undo(), Check.NOT);
        check.due("and again", x.undo(), Check.NOT);
        check.due("told(11)", x.told(11), 0);
        check.due("parts(0, 0)", x.parts(0, 0), 60);
    }

    @Edge(promise = 15, says = "UNDONE: the latest of touch(), wash(), glove(), day(), drift() that was not refused")
    static void eachKindIsUndone(Check check) {
        RubbedColours x = Check.houseOf(THREE + "t0 1;");
        x.touch(0, 1);
        x.undo();
        x.wash(0);
        x.undo();
        x.glove(0, true);
        x.undo();
        x.day();
        x.undo();
        x.drift(9);
        check.due("the last undo()", x.undo(), 0);
        for (int what : new int[] {5, 7, 8, 11}) {
            check.due("told(" + what + ")", x.told(what), 0);
        }
        for (int a = 0; a < 3; a++) {
            check.due("parts(" + a + ", " + a + ")", x.parts(a, a), 60);
        }
    }

    @Edge(promise = 15, says = "UNDONE: the latest of touch(), wash(), glove(), day(), drift() that was not refused")
    static void whatWasRefusedIsNotUndone(Check check) {
        RubbedColours x = Check.houseOf(THREE + "h2;");
        x.touch(0, 1);
        x.touch(0, 0);
        x.touch(0, 3);
        x.wash(2);
        x.wash(3);
        x.glove(2, true);
        x.glove(-1, true);
        x.day();
        x.drift(0);
        x.drift(100);
        check.due("told(11)", x.told(11), 1);
        check.due("undo()", x.undo(), 0);
        check.due("parts(0, 0)", x.parts(0, 0), 60);
    }

    @Edge(promise = 15, says = "UNDONE: the latest of touch(), wash(), glove(), day(), drift() that was not refused")
    static void whatIsNoDeedIsNotUndone(Check check) {
        RubbedColours x = Check.houseOf(TWO + "t0 1;");
        x.touch(0, 1);
        x.seed(5);
        x.see(0, 0, 1);
        x.write(0, 0, 1);
        x.feed(32);
        x.tear();
        x.shows(0, 0, 1);
        x.gap();
        check.due("told(11)", x.told(11), 1);
        x.see(0, 0, 1);
        x.write(0, 0, 1);
        check.due("undo()", x.undo(), 0);
        check.due("parts(0, 0)", x.parts(0, 0), 60);
        check.due("what was seen stays", x.told(9), 1);
        check.due("the book stays", x.told(10), 1);
        check.due("the text stays", x.told(4), 1);
    }

    @Edge(promise = 15, says = "(20 at most are kept, the oldest are lost):")
    static void twentyAreKept(Check check) {
        RubbedColours x = Check.houseOf(TWO);
        for (int n = 1; n <= 20; n++) {
            x.wash(0);
        }
        for (int n = 19; n >= 0; n--) {
            check.due("undo()", x.undo(), n);
            check.due("soap", x.told(7), n);
        }
        check.due("undo() of none", x.undo(), Check.NOT);
    }

    @Edge(promise = 15, says = "(20 at most are kept, the oldest are lost):")
    static void theOldestIsLostWithThe21st(Check check) {
        RubbedColours x = Check.houseOf(TWO);
        for (int n = 1; n <= 21; n++) {
            x.wash(0);
        }
        check.due("told(11)", x.told(11), 20);
        for (int n = 19; n >= 0; n--) {
            check.due("undo()", x.undo(), n);
            check.due("soap", x.told(7), n + 1);
        }
        check.due("undo() of the lost", x.undo(), Check.NOT);
        check.due("soap of the lost", x.told(7), 1);
    }

    @Edge(promise = 15, says = "(20 at most are kept, the oldest are lost):")
    static void roundAndRoundAgain(Check check) {
        RubbedColours x = Check.houseOf(TWO);
        int soap = 0;
        for (int round = 0; round < 5; round++) {
            for (int n = 0; n < 27; n++) {
                x.wash(0);
                soap++;
            }
            for (int n = 0; n < 13; n++) {
                soap--;
                check.due("undo()", x.undo(), 19 - n);
                check.due("soap", x.told(7), soap);
            }
        }
    }

    @Edge(promise = 15, says = "parts, GLOVES, SOAP, TOUCHES are as ahead of it; THE SEED stays.")
    static void whatIsAsAheadAndWhatStays(Check check) {
        RubbedColours x = Check.houseOf(THREE + "g2;");
        x.touch(0, 1);
        x.wash(2);
        x.seed(77);
        x.drift(50);
        Draws draws = new Draws(77);
        for (int n = 0; n < 50; n++) {
            draws.of(3);
            draws.of(2);
            if (draws.of(9) == 0) {
                draws.of(3);
            }
        }
        x.undo();
        check.due("parts(0, 1)", x.parts(0, 1), 30);
        check.due("parts(2, 2)", x.parts(2, 2), 60);
        check.due("gloves", x.told(5), 4);
        check.due("soap", x.told(7), 1);
        check.due("touches", x.told(8), 1);
        check.due("the seed stays", x.seed(0), draws.seed);
        x.glove(2, false);
        x.undo();
        check.due("gloves on again", x.told(5), 4);
    }
}
