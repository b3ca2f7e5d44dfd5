/** Boundary cases of promises 32 to 34: seed, keep, goBack. */
public final class EdgesOfDrawsTest {
    private static final String HOUSE = "c2 30;p60,0;p0,60;p30,30;t0 1;";
    private static final int LEAST = Integer.MIN_VALUE;
    private static final int GREATEST = Integer.MAX_VALUE;
    private static final int[] NO_IMAGES = {-1, 2, 31, 32, LEAST, GREATEST};

    public static void main(String[] args) {
        Edges.run(EdgesOfDrawsTest.class);
    }

    // ---- 32: seed

    @Edge(promise = 32, says = "THE SEED becomes v (0 .. 2147483647): what it was.")
    static void theLeastAndTheGreatestSeed(Check check) {
        RubbedColours x = new RubbedColours();
        check.due("seed(greatest)", x.seed(GREATEST), 0);
        check.due("seed(0)", x.seed(0), GREATEST);
        check.due("seed(1)", x.seed(1), 0);
        check.due("seed(1) again", x.seed(1), 1);
    }

    @Edge(promise = 32, says = "OUTSIDE.")
    static void aSeedTooSmall(Check check) {
        RubbedColours x = new RubbedColours();
        x.seed(5);
        check.due("seed(-1)", x.seed(-1), Check.OUTSIDE);
        check.due("seed(least)", x.seed(LEAST), Check.OUTSIDE);
        check.due("it stays", x.seed(0), 5);
    }

    // ---- 33: keep

    @Edge(promise = 33, says = "IMAGE i becomes what is so (nothing can be undone then): 1.")
    static void bothImagesAreKept(Check check) {
        RubbedColours x = Check.houseOf(HOUSE);
        check.due("keep(0)", x.keep(0), 1);
        check.due("keep(1)", x.keep(1), 1);
        check.due("goBack(0)", x.goBack(0), 1);
        check.due("goBack(1)", x.goBack(1), 1);
    }

    @Edge(promise = 33, says = "IMAGE i becomes what is so (nothing can be undone then): 1.")
    static void anImageIsKeptAnew(Check check) {
        RubbedColours x = Check.houseOf(HOUSE);
        x.keep(0);
        x.keep(1);
        x.touch(0, 1);
        check.due("keep(0) again", x.keep(0), 1);
        x.wash(0);
        x.goBack(0);
        check.due("image 0 is the later one", x.parts(0, 0), 30);
        x.goBack(1);
        check.due("image 1 stays the earlier one", x.parts(0, 0), 60);
    }

    @Edge(promise = 33, says = "IMAGE i becomes what is so (nothing can be undone then): 1.")
    static void nothingCanBeUndoneBehindKeep(Check check) {
        RubbedColours x = Check.houseOf(HOUSE);
        for (int n = 0; n < 21; n++) {
            x.touch(0, 1);
        }
        x.keep(1);
        check.due("told(11)", x.told(11), 0);
        check.due("undo()", x.undo(), Check.NOT);
        check.due("touches stay", x.told(8), 21);
        x.wash(0);
        check.due("what comes behind it can be", x.undo(), 0);
        check.due("no more", x.undo(), Check.NOT);
    }

    @Edge(promise = 33, says = "UNKNOWN.")
    static void keptAsAnImageThatThereIsNot(Check check) {
        RubbedColours x = Check.houseOf(HOUSE);
        x.touch(0, 1);
        for (int i : NO_IMAGES) {
            check.due("keep(" + i + ")", x.keep(i), Check.UNKNOWN);
        }
        check.due("told(11): refused, so it can be undone", x.told(11), 1);
        check.due("goBack(0)", x.goBack(0), Check.NOT);
        check.due("goBack(1)", x.goBack(1), Check.NOT);
    }

    @Edge(promise = 33, says = "IMAGES 0, 1 keep parts, GLOVES, SOAP, TOUCHES, THE SEED.")
    static void whatAnImageKeeps(Check check) {
        RubbedColours x = Check.houseOf(HOUSE);
        x.touch(0, 1);
        x.touch(0, 1);
        x.wash(1);
        x.glove(2, true);
        x.seed(8);
        x.keep(1);
        x.glove(2, false);
        x.glove(0, true);
        x.wash(0);
        x.wash(2);
        x.touch(1, 2);
        x.seed(9);
        x.goBack(1);
        int[][] parts = {{30, 30}, {0, 60}, {30, 30}};
        for (int a = 0; a < 3; a++) {
            for (int c = 0; c < 2; c++) {
                check.due("parts(" + a + ", " + c + ")", x.parts(a, c), parts[a][c]);
            }
        }
        check.due("gloves", x.told(5), 4);
        check.due("soap", x.told(7), 1);
        check.due("touches", x.told(8), 2);
        check.due("the seed", x.seed(0), 8);
    }

    @Edge(promise = 33, says = "IMAGES 0, 1 keep parts, GLOVES, SOAP, TOUCHES, THE SEED.")
    static void whatAnImageDoesNotKeep(Check check) {
        RubbedColours x = Check.houseOf(HOUSE);
        x.see(0, 0, 1);
        x.write(0, 0, 1);
        x.feed(32);
        x.keep(0);
        x.see(0, 0, 1);
        x.write(0, 0, 1);
        x.feed(32);
        x.goBack(0);
        check.due("what was seen stays", x.told(9), 2);
        check.due("the book stays", x.told(10), 2);
        check.due("the text stays", x.told(4), 2);
        check.due("the day stays", x.told(3), 1);
    }

    // ---- 34: goBack

    @Edge(promise = 34, says = "What is so becomes IMAGE i (nothing can be undone then): 1.")
    static void backAgainAndAgain(Check check) {
        RubbedColours x = Check.houseOf(HOUSE);
        x.keep(0);
        for (int n = 0; n < 3; n++) {
            x.touch(0, 1);
            x.drift(5);
            check.due("goBack(0)", x.goBack(0), 1);
            check.due("parts(0, 0)", x.parts(0, 0), 60);
            check.due("touches", x.told(8), 0);
            check.due("the seed", x.seed(0), 0);
        }
    }

    @Edge(promise = 34, says = "What is so becomes IMAGE i (nothing can be undone then): 1.")
    static void nothingCanBeUndoneBehindGoBack(Check check) {
        RubbedColours x = Check.houseOf(HOUSE);
        x.keep(0);
        x.touch(0, 1);
        x.wash(0);
        x.goBack(0);
        check.due("told(11)", x.told(11), 0);
        check.due("undo()", x.undo(), Check.NOT);
        check.due("parts(1, 0)", x.parts(1, 0), 0);
        x.touch(0, 2);
        check.due("what comes behind it can be", x.undo(), 0);
        check.due("parts(2, 0)", x.parts(2, 0), 30);
    }

    @Edge(promise = 34, says = "UNKNOWN, NOT: it was not kept.")
    static void backToAnImageThatThereIsNot(Check check) {
        RubbedColours x = Check.houseOf(HOUSE);
        x.keep(0);
        x.keep(1);
        x.touch(0, 1);
        for (int i : NO_IMAGES) {
            check.due("goBack(" + i + ")", x.goBack(i), Check.UNKNOWN);
        }
        check.due("parts(0, 0)", x.parts(0, 0), 30);
        check.due("told(11)", x.told(11), 1);
    }

    @Edge(promise = 34, says = "UNKNOWN, NOT: it was not kept.")
    static void backToAnImageThatWasNotKept(Check check) {
        RubbedColours x = Check.houseOf(HOUSE);
        check.due("goBack(0)", x.goBack(0), Check.NOT);
        x.keep(0);
        x.touch(0, 1);
        check.due("goBack(1), the other was kept", x.goBack(1), Check.NOT);
        check.due("parts(0, 0)", x.parts(0, 0), 30);
        check.due("told(11)", x.told(11), 1);
        RubbedColours other = Check.houseOf(HOUSE);
        other.keep(1);
        check.due("goBack(0), the other was kept", other.goBack(0), Check.NOT);
    }

    @Edge(promise = 34, says = "What is so becomes IMAGE i (nothing can be undone then): 1.")
    static void anImageOfNoHouse(Check check) {
        RubbedColours x = new RubbedColours();
        x.seed(3);
        check.due("keep(1)", x.keep(1), 1);
        x.seed(4);
        check.due("goBack(1)", x.goBack(1), 1);
        check.due("the seed", x.seed(0), 3);
    }
}
