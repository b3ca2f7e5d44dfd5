/** Two objects with the same calls behind them: whatever is asked of both must be answered alike. */
final class Twins {
    private static final String HOUSE = "c3 10;p60,0,0;p0,60,0;p20,20,20;p0,0,60;h3;g2;t0 1,1 3,0 2,3 0;";

    private Twins() {
    }

    /** A house in which something was done, kept, seen, written, and can be undone. */
    static RubbedColours inFullSwing() {
        RubbedColours x = Check.houseOf(HOUSE);
        x.seed(4711);
        x.touch(0, 1);
        x.wash(1);
        x.keep(0);
        x.drift(7);
        x.glove(0, false);
        x.see(0, 0, 30);
        x.see(1, 1, 31);
        x.write(0, 0, x.parts(0, 0));
        x.write(0, 1, 60);
        x.wash(0);
        x.glove(2, false);
        x.day();
        x.drift(3);
        return x;
    }

    static void compare(Check check, RubbedColours x, RubbedColours twin) {
        check.due("fault()", x.fault(), twin.fault());
        compareAllButFault(check, x, twin);
        x.feed('c');
        twin.feed('c');
        check.due("house() of the text", x.house(), twin.house());
        check.due("fault() of the text", x.fault(), twin.fault());
    }

    static void compareAllButFault(Check check, RubbedColours x, RubbedColours twin) {
        compareHouse(check, x, twin);
        compareNow(check, x, twin);
        check.due("gap()", x.gap(), twin.gap());
        check.due("look()", x.look(), twin.look());
        check.due("judge()", x.judge(), twin.judge());
        check.due("the seed", x.seed(1), twin.seed(1));
        for (int n = 0; n < 20; n++) {
            int left = twin.undo();
            check.due("undo()", x.undo(), left);
            compareNow(check, x, twin);
            if (left <= 0) {
                break;
            }
        }
        for (int i = 0; i < 2; i++) {
            check.due("goBack(" + i + ")", x.goBack(i), twin.goBack(i));
            compareNow(check, x, twin);
            check.due("the seed of it", x.seed(2), twin.seed(2));
        }
        check.due("tear()", x.tear(), twin.tear());
    }

    private static void compareHouse(Check check, RubbedColours x, RubbedColours twin) {
        for (int what = 0; what <= 4; what++) {
            check.due("told(" + what + ")", x.told(what), twin.told(what));
        }
        for (int k = 0; k < 5; k++) {
            check.due("planned(" + k + ")", x.planned(k), twin.planned(k));
        }
        for (int a = 0; a < 4; a++) {
            for (int c = 0; c < 3; c++) {
                check.due("own(" + a + ", " + c + ")", x.own(a, c), twin.own(a, c));
            }
        }
    }

    private static void compareNow(Check check, RubbedColours x, RubbedColours twin) {
        for (int what = 5; what <= 11; what++) {
            check.due("told(" + what + ")", x.told(what), twin.told(what));
        }
        for (int a = 0; a < 4; a++) {
            for (int c = 0; c < 3; c++) {
                check.due("parts(" + a + ", " + c + ")", x.parts(a, c), twin.parts(a, c));
            }
        }
    }
}
