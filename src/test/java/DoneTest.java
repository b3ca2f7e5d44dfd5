/** Promises 10 to 15: touches, gloves, washings, days, drifts, undone. */
public final class DoneTest {
    private static final Check CHECK = new Check("DoneTest");
    private static final String HALVES = "c2 30;p60,0;p0,60;p1,59;h2;";

    public static void main(String[] args) {
        touch();
        glove();
        wash();
        day();
        drift();
        undo();
        undoKeepsTwenty();
        CHECK.end();
    }

    private static void touch() {
        RubbedColours x = Check.houseOf(HALVES);
        CHECK.due("touch(0, 1)", x.touch(0, 1), 30);
        CHECK.due("parts(0, 0)", x.parts(0, 0), 30);
        CHECK.due("parts(1, 0)", x.parts(1, 0), 30);
        CHECK.due("touch(0, 1) of like ones", x.touch(0, 1), 0);
        CHECK.due("touch(2, 0)", x.touch(2, 0), 14);
        CHECK.due("parts(2, 0)", x.parts(2, 0), 15);
        CHECK.due("parts(0, 0)", x.parts(0, 0), 16);
        CHECK.due("told(8)", x.told(8), 3);
        x.glove(1, true);
        CHECK.due("touch(1, 2) in gloves", x.touch(1, 2), 0);
        CHECK.due("touch(2, 1) in gloves", x.touch(2, 1), 0);
        CHECK.due("parts(2, 0) stay", x.parts(2, 0), 15);
        CHECK.due("told(8) counts gloves, too", x.told(8), 5);
        CHECK.due("told(11)", x.told(11), 6);
        CHECK.due("touch(0, 0)", x.touch(0, 0), Check.UNKNOWN);
        CHECK.due("touch(0, 3)", x.touch(0, 3), Check.UNKNOWN);
        CHECK.due("touch(-1, 0)", x.touch(-1, 0), Check.UNKNOWN);
        CHECK.due("told(8) behind refusals", x.told(8), 5);
        CHECK.due("told(11) behind refusals", x.told(11), 6);

        RubbedColours swap = Check.houseOf("c2 30;p1,59;p0,60;");
        CHECK.due("touch(0, 1) takes all", swap.touch(0, 1), 1);
        CHECK.due("parts(0, 0)", swap.parts(0, 0), 0);
        CHECK.due("parts(1, 0)", swap.parts(1, 0), 1);

        RubbedColours many = Check.houseOf("c4 30;p30,30,0,0;p0,0,30,30;");
        CHECK.due("touch(0, 1) with two colours more", many.touch(0, 1), 30);
    }

    private static void glove() {
        RubbedColours x = Check.houseOf(HALVES + "g0;");
        CHECK.due("glove(0, true)", x.glove(0, true), 1);
        CHECK.due("glove(0, false)", x.glove(0, false), 1);
        CHECK.due("glove(0, false) again", x.glove(0, false), 0);
        CHECK.due("glove(1, true)", x.glove(1, true), 0);
        CHECK.due("told(5)", x.told(5), 2);
        CHECK.due("glove(2, true) of a dog", x.glove(2, true), Check.NOT);
        CHECK.due("glove(2, false) of a dog", x.glove(2, false), Check.NOT);
        CHECK.due("glove(3, true)", x.glove(3, true), Check.UNKNOWN);
        CHECK.due("glove(-1, true)", x.glove(-1, true), Check.UNKNOWN);
        CHECK.due("told(5)", x.told(5), 2);
        CHECK.due("told(11): such as change nothing, too", x.told(11), 4);
    }

    private static void wash() {
        RubbedColours x = Check.houseOf(HALVES + "g1;");
        x.touch(0, 2);
        CHECK.due("parts(0, 0)", x.parts(0, 0), 31);
        CHECK.due("wash(0)", x.wash(0), 1);
        CHECK.due("parts(0, 0) washed", x.parts(0, 0), 60);
        CHECK.due("parts(0, 1) washed", x.parts(0, 1), 0);
        CHECK.due("parts(2, 0) stay", x.parts(2, 0), 30);
        CHECK.due("wash(1) in gloves", x.wash(1), 2);
        CHECK.due("wash(2) of a dog", x.wash(2), Check.NOT);
        CHECK.due("wash(3)", x.wash(3), Check.UNKNOWN);
        CHECK.due("wash(-1)", x.wash(-1), Check.UNKNOWN);
        CHECK.due("told(7)", x.told(7), 2);
        CHECK.due("told(8)", x.told(8), 1);
        CHECK.due("told(11)", x.told(11), 3);
    }

    private static void day() {
        RubbedColours x = Check.houseOf("c2 30;p60,0;p0,60;p0,60;p0,60;t0 1,1 2,2 3;");
        CHECK.due("day()", x.day(), 3);
        CHECK.due("parts(0, 0)", x.parts(0, 0), 30);
        CHECK.due("parts(1, 0)", x.parts(1, 0), 15);
        CHECK.due("parts(2, 0)", x.parts(2, 0), 7);
        CHECK.due("parts(3, 0)", x.parts(3, 0), 8);
        CHECK.due("told(11)", x.told(11), 1);
        x.undo();
        x.glove(1, true);
        CHECK.due("day() with gloves", x.day(), 3);
        CHECK.due("parts(0, 0) stay", x.parts(0, 0), 60);
        CHECK.due("day() again", x.day(), 6);
        CHECK.due("day() of none", Check.houseOf(HALVES).day(), Check.NOT);
        CHECK.due("day() of no house", new RubbedColours().day(), Check.NOT);
    }

    /** The draws written out once more: the second coat is counted on from the first. */
    private static void drift() {
        RubbedColours x = Check.houseOf(HALVES);
        RubbedColours hand = Check.houseOf(HALVES);
        long seed = 4242;
        x.seed(4242);
        int washed = 0;
        for (int step = 0; step < 60; step++) {
            seed = next(seed);
            int a = draw(seed, 3);
            seed = next(seed);
            hand.touch(a, (a + draw(seed, 2) + 1) % 3);
            seed = next(seed);
            if (draw(seed, 9) == 0) {
                seed = next(seed);
                if (draw(seed, 3) != 2) {
                    hand.wash(draw(seed, 3));
                    washed++;
                }
            }
        }
        CHECK.holds("the hand's steps wash, too", washed > 0);
        CHECK.due("drift(60)", x.drift(60), 60);
        CHECK.due("told(7)", x.told(7), washed);
        CHECK.due("told(11)", x.told(11), 1);
        for (int a = 0; a < 3; a++) {
            CHECK.due("parts(" + a + ", 0)", x.parts(a, 0), hand.parts(a, 0));
        }
        CHECK.due("the seed", x.seed(0), seed);
        CHECK.due("drift(0)", x.drift(0), Check.OUTSIDE);
        CHECK.due("drift(100)", x.drift(100), Check.OUTSIDE);
        CHECK.due("drift(-1)", x.drift(-1), Check.OUTSIDE);
        CHECK.due("refused, no draw", x.seed(0), 0);
        CHECK.due("drift(1)", x.drift(1), 61);
        CHECK.due("drift(99)", x.drift(99), 160);
        RubbedColours one = Check.houseOf("c2 1;p60,0;");
        CHECK.due("drift(1) of one coat", one.drift(1), Check.NOT);
        CHECK.due("drift(0) of one coat", one.drift(0), Check.OUTSIDE);
        CHECK.due("drift(1) of two coats", Check.houseOf("c2 1;p60,0;p60,0;").drift(1), 1);
    }

    private static long next(long seed) {
        return (seed * 1103515245L + 12345L) % (1L << 31);
    }

    private static int draw(long seed, int n) {
        return (int) (seed / 65536 % n);
    }

    private static void undo() {
        RubbedColours x = Check.houseOf(HALVES + "t0 1;");
        CHECK.due("undo() of none", x.undo(), Check.NOT);
        x.seed(9);
        x.touch(0, 1);
        x.glove(0, true);
        x.wash(1);
        x.glove(0, false);
        x.day();
        x.drift(50);
        int seed = x.seed(3);
        x.seed(seed);
        x.touch(0, 9);
        CHECK.due("told(11)", x.told(11), 6);
        CHECK.due("undo() of drift", x.undo(), 5);
        CHECK.due("touches", x.told(8), 2);
        CHECK.due("soap", x.told(7), 1);
        CHECK.due("parts(1, 0) behind the day", x.parts(1, 0), 15);
        CHECK.due("the seed stays", x.seed(seed), seed);
        CHECK.due("undo() of day", x.undo(), 4);
        CHECK.due("touches", x.told(8), 1);
        CHECK.due("parts(1, 0) washed", x.parts(1, 0), 0);
        CHECK.due("undo() of glove", x.undo(), 3);
        CHECK.due("gloves", x.told(5), 1);
        CHECK.due("undo() of wash", x.undo(), 2);
        CHECK.due("soap", x.told(7), 0);
        CHECK.due("parts(1, 0)", x.parts(1, 0), 30);
        CHECK.due("undo() of glove", x.undo(), 1);
        CHECK.due("gloves", x.told(5), 0);
        CHECK.due("undo() of touch", x.undo(), 0);
        CHECK.due("parts(0, 0)", x.parts(0, 0), 60);
        CHECK.due("touches", x.told(8), 0);
        CHECK.due("undo() of none", x.undo(), Check.NOT);
    }

    private static void undoKeepsTwenty() {
        RubbedColours x = Check.houseOf(HALVES);
        for (int n = 1; n <= 47; n++) {
            x.wash(0);
            CHECK.due("told(11) behind " + n, x.told(11), Math.min(n, 20));
        }
        for (int n = 19; n >= 0; n--) {
            CHECK.due("undo()", x.undo(), n);
            CHECK.due("soap", x.told(7), 27 + n);
        }
        CHECK.due("undo() of the lost", x.undo(), Check.NOT);
        CHECK.due("soap", x.told(7), 27);
        x.wash(1);
        CHECK.due("undo()", x.undo(), 0);
    }
}
