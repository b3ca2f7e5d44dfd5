/** Promises 32 to 34: the seed and the images. */
public final class DrawsTest {
    private static final Check CHECK = new Check("DrawsTest");
    private static final String HOUSE = "c2 30;p60,0;p0,60;p30,30;t0 1;";

    public static void main(String[] args) {
        seed();
        images();
        imagesAndUndo();
        twoImages();
        CHECK.end();
    }

    private static void seed() {
        RubbedColours x = Check.houseOf(HOUSE);
        CHECK.due("seed(5)", x.seed(5), 0);
        CHECK.due("seed(-1)", x.seed(-1), Check.OUTSIDE);
        CHECK.due("seed(least)", x.seed(Integer.MIN_VALUE), Check.OUTSIDE);
        CHECK.due("seed(greatest)", x.seed(Integer.MAX_VALUE), 5);
        CHECK.due("seed(0)", x.seed(0), Integer.MAX_VALUE);
        x.drift(1);
        int first = x.seed(0);
        CHECK.holds("draws change the seed", first != 0);
        x.undo();
        x.drift(1);
        CHECK.due("the same draws again", x.seed(0), first);
        CHECK.due("seed() cannot be undone", x.told(11), 1);
    }

    private static void images() {
        RubbedColours x = Check.houseOf(HOUSE);
        CHECK.due("goBack(0), not kept", x.goBack(0), Check.NOT);
        CHECK.due("goBack(1), not kept", x.goBack(1), Check.NOT);
        for (int i : new int[] {-1, 2, Integer.MAX_VALUE, Integer.MIN_VALUE}) {
            CHECK.due("keep(" + i + ")", x.keep(i), Check.UNKNOWN);
            CHECK.due("goBack(" + i + ")", x.goBack(i), Check.UNKNOWN);
        }
        x.seed(8);
        x.touch(0, 1);
        x.wash(1);
        x.glove(2, true);
        CHECK.due("keep(1)", x.keep(1), 1);
        x.seed(9);
        x.glove(2, false);
        x.glove(0, true);
        x.touch(1, 2);
        x.wash(0);
        x.see(0, 0, 1);
        x.write(0, 0, 1);
        CHECK.due("goBack(1)", x.goBack(1), 1);
        CHECK.due("parts(0, 0)", x.parts(0, 0), 30);
        CHECK.due("parts(1, 0)", x.parts(1, 0), 0);
        CHECK.due("parts(2, 0)", x.parts(2, 0), 30);
        CHECK.due("gloves", x.told(5), 4);
        CHECK.due("soap", x.told(7), 1);
        CHECK.due("touches", x.told(8), 1);
        CHECK.due("what was seen stays", x.told(9), 1);
        CHECK.due("the book stays", x.told(10), 1);
        CHECK.due("the seed", x.seed(10), 8);
        CHECK.due("goBack(0), not kept yet", x.goBack(0), Check.NOT);
        CHECK.due("goBack(1) twice", x.goBack(1), 1);
        CHECK.due("the seed again", x.seed(10), 8);
    }

    private static void imagesAndUndo() {
        RubbedColours x = Check.houseOf(HOUSE);
        x.touch(0, 1);
        x.touch(0, 1);
        CHECK.due("refused, told(11)", x.keep(2) + x.told(11), Check.UNKNOWN + 2);
        CHECK.due("refused, told(11)", x.goBack(0) + x.told(11), Check.NOT + 2);
        x.keep(0);
        CHECK.due("undo() behind keep()", x.undo(), Check.NOT);
        x.touch(0, 2);
        CHECK.due("told(11)", x.told(11), 1);
        x.goBack(0);
        CHECK.due("told(11) behind goBack()", x.told(11), 0);
        CHECK.due("undo() behind goBack()", x.undo(), Check.NOT);
        x.wash(0);
        CHECK.due("undo() goes on from the image", x.undo(), 0);
        CHECK.due("parts(0, 0)", x.parts(0, 0), 30);
    }

    private static void twoImages() {
        RubbedColours x = Check.houseOf(HOUSE);
        x.keep(0);
        x.touch(0, 1);
        x.keep(1);
        x.touch(0, 2);
        x.goBack(0);
        CHECK.due("image 0", x.parts(0, 0), 60);
        x.goBack(1);
        CHECK.due("image 1", x.parts(0, 0), 30);
        x.wash(1);
        x.keep(0);
        x.wash(0);
        x.goBack(0);
        CHECK.due("image 0 kept anew", x.parts(1, 0), 0);
        CHECK.due("image 0 kept anew, coat 0", x.parts(0, 0), 30);
    }
}
