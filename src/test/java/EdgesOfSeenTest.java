/** Boundary cases of promises 26 to 31: see, gap, look, write, tear, judge. */
public final class EdgesOfSeenTest {
    private static final String TWO = "c2 30;p60,0;p0,60;";
    /** Ends of coats 0 to 3 in colour 0, without touch 0, 1, 2, none: 60 0 0 0, 30 30 0 0, 30 15 15 0, 30 15 7 8. */
    private static final String CHAIN = "c2 30;p60,0;p0,60;p0,60;p0,60;t0 1,1 2,2 3;";
    private static final String TEN = "t0 1,0 1,0 1,0 1,0 1,0 1,0 1,0 1,0 1,0 1;";
    private static final int LEAST = Integer.MIN_VALUE;
    private static final int GREATEST = Integer.MAX_VALUE;
    private static final int[][] UNKNOWN_CELLS = {{4, 0}, {-1, 0}, {LEAST, 0}, {GREATEST, 0}, {0, 2}, {0, -1}, {0, LEAST}, {0, GREATEST}};
    private static final int[] OUTSIDE_PARTS = {-1, 61, LEAST, GREATEST};

    public static void main(String[] args) {
        Edges.run(EdgesOfSeenTest.class);
    }

    // ---- 26: see

    @Edge(promise = 26, says = "SEEN (8 at most): a COAT has v parts (0 .. 60) of a COLOUR at THE DAY's end.")
    static void eightAreSeenAndNoNinth(Check check) {
        RubbedColours x = Check.houseOf(CHAIN);
        for (int n = 1; n <= 8; n++) {
            check.due("see, the " + n + "th", x.see(0, 0, 30), n);
        }
        check.due("see, the 9th", x.see(0, 0, 0), Check.FULL);
        check.due("told(9)", x.told(9), 8);
        check.due("gap(): the 9th is not seen", x.gap(), 14);
    }

    @Edge(promise = 26, says = "SEEN (8 at most): a COAT has v parts (0 .. 60) of a COLOUR at THE DAY's end.")
    static void theLeastAndTheMostParts(Check check) {
        RubbedColours x = Check.houseOf(CHAIN);
        check.due("see(3, 0, 0)", x.see(3, 0, 0), 1);
        check.due("see(3, 1, 60)", x.see(3, 1, 60), 2);
        check.due("gap()", x.gap(), 7);
    }

    @Edge(promise = 26, says = "SEEN: how much.")
    static void theSameMayBeSeenAgain(Check check) {
        RubbedColours x = Check.houseOf(CHAIN);
        check.due("see", x.see(0, 0, 30), 1);
        check.due("see again", x.see(0, 0, 30), 2);
        check.due("see otherwise", x.see(0, 0, 31), 3);
        check.due("gap(): it cannot be both", x.gap(), 0);
    }

    @Edge(promise = 26, says = "UNKNOWN, OUTSIDE, FULL (8).")
    static void seenOutside(Check check) {
        RubbedColours x = Check.houseOf(CHAIN);
        for (int v : OUTSIDE_PARTS) {
            check.due("see(0, 0, " + v + ")", x.see(0, 0, v), Check.OUTSIDE);
        }
        check.due("told(9)", x.told(9), 0);
    }

    @Edge(promise = 26, says = "UNKNOWN, OUTSIDE, FULL (8).")
    static void seenOnWhatThereIsNot(Check check) {
        RubbedColours x = Check.houseOf(CHAIN);
        for (int[] u : UNKNOWN_CELLS) {
            check.due("see(" + u[0] + ", " + u[1] + ", 0)", x.see(u[0], u[1], 0), Check.UNKNOWN);
            check.due("and outside", x.see(u[0], u[1], 61), Check.UNKNOWN);
        }
        check.due("told(9)", x.told(9), 0);
    }

    @Edge(promise = 26, says = "UNKNOWN, OUTSIDE, FULL (8).")
    static void fullIsTheLastOfTheRefusals(Check check) {
        RubbedColours x = Check.houseOf(CHAIN);
        for (int n = 0; n < 8; n++) {
            x.see(0, 0, 30);
        }
        check.due("unknown and full", x.see(4, 0, 0), Check.UNKNOWN);
        check.due("outside and full", x.see(0, 0, 61), Check.OUTSIDE);
        check.due("full", x.see(0, 0, 60), Check.FULL);
    }

    // ---- 27: gap

    @Edge(promise = 27, says = "GAP: TOUCHES of THE DAY of which one was left out, or none (its number: as many as there are TOUCHES), by which all SEEN is so: a SET.")
    static void nothingSeenFitsAll(Check check) {
        check.due("three touches", Check.houseOf(CHAIN).gap(), 15);
        check.due("ten touches", Check.houseOf(TWO + TEN).gap(), 2047);
        check.due("one touch", Check.houseOf(TWO + "t0 1;").gap(), 3);
    }

    @Edge(promise = 27, says = "GAP: TOUCHES of THE DAY of which one was left out, or none (its number: as many as there are TOUCHES), by which all SEEN is so: a SET.")
    static void noneHasTheNumberBehindTheTouches(Check check) {
        RubbedColours x = Check.houseOf(CHAIN);
        x.see(3, 0, 8);
        check.due("none of three", x.gap(), 8);
        // by each touch one part goes over, so nine touches show otherwise than ten
        RubbedColours ten = Check.houseOf("c2 30;p1,59;p0,60;" + TEN);
        ten.see(0, 0, 1);
        check.due("none of ten", ten.gap(), 1024);
        ten.tear();
        ten.see(0, 0, 0);
        check.due("any of ten", ten.gap(), 1023);
    }

    @Edge(promise = 27, says = "GAP: TOUCHES of THE DAY of which one was left out, or none (its number: as many as there are TOUCHES), by which all SEEN is so: a SET.")
    static void aDayWithoutTouches(Check check) {
        RubbedColours x = Check.houseOf(TWO);
        check.due("nothing seen", x.gap(), 1);
        x.see(0, 0, 60);
        check.due("as it is", x.gap(), 1);
        x.see(0, 0, 59);
        check.due("as it is not", x.gap(), 0);
    }

    @Edge(promise = 27, says = "GAP.")
    static void theFirstAloneTheLastAloneAndNone(Check check) {
        RubbedColours x = Check.houseOf(CHAIN);
        x.see(0, 0, 60);
        check.due("touch 0 alone", x.gap(), 1);
        x.tear();
        x.see(2, 0, 15);
        check.due("touch 2 alone", x.gap(), 4);
        x.tear();
        x.see(2, 0, 16);
        check.due("nothing fits", x.gap(), 0);
    }

    @Edge(promise = 27, says = "GAP.")
    static void theGapIsFromNow(Check check) {
        RubbedColours x = Check.houseOf(CHAIN);
        x.see(0, 0, 60);
        check.due("without gloves", x.gap(), 1);
        x.glove(0, true);
        check.due("in gloves any fits", x.gap(), 15);
        x.undo();
        x.touch(0, 1);
        check.due("behind a touch nothing fits", x.gap(), 0);
    }

    // ---- 28: look

    @Edge(promise = 28, says = "LOOK: the COAT and the COLOUR by which those of GAP are told apart best: they are parted by its parts at the end; the greatest part is least;")
    static void theGreatestPartIsLeast(Check check) {
        // coat 0 parts the four 1 and 3, coat 1 1, 1 and 2, coat 2 2, 1 and 1, coat 3 3 and 1
        check.due("look()", Check.houseOf(CHAIN).look(), 10);
    }

    @Edge(promise = 28, says = "of like ones the first (COAT by COAT, then COLOUR): 10 times COAT and COLOUR;")
    static void theFirstOfLikeOnes(Check check) {
        check.due("coat 0, colour 0", Check.houseOf(TWO + "t0 1;").look(), 0);
        check.due("coat 0, colour 1", Check.houseOf("c3 30;p30,30,0;p30,0,30;t0 1;").look(), 1);
        check.due("the last two coats, the last two colours",
            Check.houseOf("c5 30;p60,0,0,0,0;p60,0,0,0,0;p60,0,0,0,0;p60,0,0,0,0;p0,0,0,60,0;p0,0,0,0,60;t4 5;").look(), 43);
    }

    @Edge(promise = 28, says = "NONE: none parts them, or less than two.")
    static void noneParts(Check check) {
        RubbedColours x = Check.houseOf("c2 30;p60,0;p60,0;t0 1,1 0;");
        check.due("gap()", x.gap(), 7);
        check.due("look()", x.look(), Check.NONE);
        RubbedColours gloves = Check.houseOf(CHAIN + "g0;g1;g2;");
        check.due("gap() in gloves", gloves.gap(), 15);
        check.due("look() in gloves", gloves.look(), Check.NONE);
    }

    @Edge(promise = 28, says = "NONE: none parts them, or less than two.")
    static void lessThanTwo(Check check) {
        RubbedColours x = Check.houseOf(CHAIN);
        x.see(1, 0, 15);
        check.due("two: coat 2 parts them", x.look(), 20);
        x.see(2, 0, 7);
        check.due("one", x.look(), Check.NONE);
        x.see(2, 0, 8);
        check.due("none", x.look(), Check.NONE);
        check.due("no day", Check.houseOf(TWO).look(), Check.NONE);
    }

    @Edge(promise = 28, says = "LOOK; NONE.")
    static void thoseOfTheGapAlone(Check check) {
        RubbedColours x = Check.houseOf(CHAIN);
        // behind it touches 1, 2 and none are left: coat 1 parts them 1 and 2, coat 2 parts all three
        x.see(0, 0, 30);
        check.due("look()", x.look(), 20);
        check.due("look() again", x.look(), 20);
    }

    @Edge(promise = 28, says = "LOOK; NONE.")
    static void aLookOnADayOfTenTouches(Check check) {
        String ten = "t1 2,1 2,1 2,1 2,1 2,1 2,1 2,1 2,1 2,1 2;";
        check.due("coat 0 has the same by all eleven", Check.houseOf("c2 30;p60,0;p1,59;p0,60;" + ten).look(), 10);
        check.due("all have the same by all eleven", Check.houseOf("c2 30;p60,0;p60,0;p60,0;" + ten).look(), Check.NONE);
    }

    // ---- 29: write

    @Edge(promise = 29, says = "THE BOOK (15 at most) tells parts (0 .. 60) of COLOURS on COATS:")
    static void fifteenEntriesAndNoSixteenth(Check check) {
        RubbedColours x = Check.houseOf(CHAIN);
        for (int n = 1; n <= 15; n++) {
            check.due("write, the " + n + "th", x.write(0, 0, 60), n);
        }
        check.due("write, the 16th", x.write(0, 0, 0), Check.FULL);
        check.due("told(10)", x.told(10), 15);
        check.due("judge(): the 16th is not in it", x.judge(), Check.NONE);
    }

    @Edge(promise = 29, says = "An entry behind THE BOOK: how many.")
    static void theLeastAndTheMostOfAnEntry(Check check) {
        RubbedColours x = Check.houseOf(CHAIN);
        check.due("write(3, 0, 0)", x.write(3, 0, 0), 1);
        check.due("write(3, 1, 60)", x.write(3, 1, 60), 2);
        check.due("judge()", x.judge(), Check.NONE);
        check.due("what was seen is another thing", x.told(9), 0);
    }

    @Edge(promise = 29, says = "UNKNOWN, OUTSIDE, FULL (15).")
    static void entriesOutside(Check check) {
        RubbedColours x = Check.houseOf(CHAIN);
        for (int v : OUTSIDE_PARTS) {
            check.due("write(0, 0, " + v + ")", x.write(0, 0, v), Check.OUTSIDE);
        }
        check.due("told(10)", x.told(10), 0);
    }

    @Edge(promise = 29, says = "UNKNOWN, OUTSIDE, FULL (15).")
    static void entriesOnWhatThereIsNot(Check check) {
        RubbedColours x = Check.houseOf(CHAIN);
        for (int[] u : UNKNOWN_CELLS) {
            check.due("write(" + u[0] + ", " + u[1] + ", 0)", x.write(u[0], u[1], 0), Check.UNKNOWN);
            check.due("and outside", x.write(u[0], u[1], 61), Check.UNKNOWN);
        }
        check.due("told(10)", x.told(10), 0);
    }

    @Edge(promise = 29, says = "UNKNOWN, OUTSIDE, FULL (15).")
    static void aFullBookIsTheLastOfTheRefusals(Check check) {
        RubbedColours x = Check.houseOf(CHAIN);
        for (int n = 0; n < 15; n++) {
            x.write(0, 0, 60);
        }
        check.due("unknown and full", x.write(4, 0, 0), Check.UNKNOWN);
        check.due("outside and full", x.write(0, 0, -1), Check.OUTSIDE);
        check.due("full", x.write(0, 0, 60), Check.FULL);
    }

    // ---- 30: tear

    @Edge(promise = 30, says = "Nothing SEEN, THE BOOK is empty: how many both had.")
    static void tearOfNothingAndOfAll(Check check) {
        RubbedColours x = Check.houseOf(CHAIN);
        check.due("of nothing", x.tear(), 0);
        for (int n = 0; n < 16; n++) {
            x.see(0, 0, 1);
            x.write(0, 0, 1);
        }
        check.due("of all", x.tear(), 23);
        check.due("of nothing again", x.tear(), 0);
        check.due("told(9)", x.told(9), 0);
        check.due("told(10)", x.told(10), 0);
        check.due("gap()", x.gap(), 15);
        check.due("judge()", x.judge(), Check.NONE);
        check.due("see behind it", x.see(0, 0, 1), 1);
        check.due("write behind it", x.write(0, 0, 1), 1);
    }

    @Edge(promise = 30, says = "Nothing SEEN, THE BOOK is empty: how many both had.")
    static void tearOfOneOfBoth(Check check) {
        RubbedColours x = Check.houseOf(CHAIN);
        x.see(0, 0, 1);
        check.due("seen alone", x.tear(), 1);
        x.write(0, 0, 1);
        check.due("the book alone", x.tear(), 1);
    }

    // ---- 31: judge

    @Edge(promise = 31, says = "WRONG: the first that are otherwise now; NONE.")
    static void theFirstEntryAndTheLast(Check check) {
        RubbedColours x = Check.houseOf(CHAIN);
        for (int n = 0; n < 14; n++) {
            x.write(0, 0, 60);
        }
        x.write(0, 0, 59);
        check.due("the last of fifteen", x.judge(), 14);
        x.touch(0, 1);
        check.due("the first of all", x.judge(), 0);
        x.undo();
        check.due("the last again", x.judge(), 14);
    }

    @Edge(promise = 31, says = "WRONG; NONE.")
    static void noBookAndNothingWrong(Check check) {
        RubbedColours x = Check.houseOf(CHAIN);
        check.due("no book", x.judge(), Check.NONE);
        x.write(0, 0, 60);
        x.write(3, 1, 60);
        check.due("nothing wrong", x.judge(), Check.NONE);
        check.due("no house", new RubbedColours().judge(), Check.NONE);
    }
}
