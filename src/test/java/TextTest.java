/** Promises 1 to 4: a new object, the text, its house and its first fault. */
public final class TextTest {
    private static final Check CHECK = new Check("TextTest");
    private static final String TEN = "0 1,1 0,0 1,1 0,0 1,1 0,0 1,1 0,0 1,1 0";
    private static final String TWO = "c2 1;p60,0;p0,60;";

    public static void main(String[] args) {
        newObject();
        letters();
        wholeTexts();
        cannotStand();
        numbers();
        again();
        otherFaults();
        leastOfOneLetter();
        whatHouseChanges();
        CHECK.end();
    }

    private static void newObject() {
        RubbedColours x = new RubbedColours();
        for (int what = 0; what <= 11; what++) {
            CHECK.due("new told(" + what + ")", x.told(what), 0);
        }
        CHECK.due("new fault()", x.fault(), Check.NONE);
        CHECK.due("new seed", x.seed(0), 0);
        CHECK.due("new goBack(0)", x.goBack(0), Check.NOT);
        CHECK.due("new gives(0, 0)", x.gives(0, 0), Check.UNKNOWN);
        CHECK.due("new own(0, 0)", x.own(0, 0), Check.UNKNOWN);
        CHECK.due("new gap()", x.gap(), 1);
        CHECK.due("new look()", x.look(), Check.NONE);
        CHECK.due("new rest(-1, 77)", x.rest(-1, 77), 0);
        CHECK.due("new keep(1)", x.keep(1), 1);
        CHECK.due("new goBack(1)", x.goBack(1), 1);
    }

    private static void letters() {
        RubbedColours x = new RubbedColours();
        CHECK.due("feed(-1)", x.feed(-1), Check.OUTSIDE);
        CHECK.due("feed(256)", x.feed(256), Check.OUTSIDE);
        CHECK.due("feed(least)", x.feed(Integer.MIN_VALUE), Check.OUTSIDE);
        CHECK.due("feed(0)", x.feed(0), 1);
        CHECK.due("feed(255)", x.feed(255), 2);
        for (int n = 3; n <= 240; n++) {
            CHECK.due("feed(32)", x.feed(32), n);
        }
        CHECK.due("feed, full", x.feed(32), Check.FULL);
        CHECK.due("feed, full and outside", x.feed(256), Check.OUTSIDE);
        CHECK.due("told(4)", x.told(4), 240);
        CHECK.due("house()", x.house(), -11);
        CHECK.due("told(4) behind house()", x.told(4), 0);
        CHECK.due("feed behind house()", x.feed(99), 1);
    }

    private static void text(String text, int answer, int faultAt) {
        RubbedColours x = new RubbedColours();
        Check.feedAll(x, text);
        CHECK.due("house() of \"" + text + "\"", x.house(), answer);
        CHECK.due("fault() of \"" + text + "\"", x.fault(), faultAt);
        CHECK.due("told(4) behind \"" + text + "\"", x.told(4), 0);
    }

    private static void wholeTexts() {
        text("", 0, Check.NONE);
        text("   ", 0, Check.NONE);
        text("c2 1;", 0, Check.NONE);
        text("c5 30;p60,0,0,0,0;", 1, Check.NONE);
        text(" c 2  1 ; p 60 , 0 ; p 0 , 060 ; t 0 1 , 1 0 ; g 0 ; h 1 ; ", 2, Check.NONE);
        text("c002 001;p060,000;", 1, Check.NONE);
        text("c2 1;p60,0;p60,0;p60,0;p60,0;p60,0;p60,0;", 6, Check.NONE);
        text(TWO + "t" + TEN + ";", 2, Check.NONE);
        text(TWO + "t1 0;p30,30;g2;h0;", 3, Check.NONE);
    }

    private static void cannotStand() {
        text("p60,0;", -11, 0);
        text(" x", -11, 1);
        text(";", -11, 0);
        text("2", -11, 0);
        text("C2 1;", -11, 0);
        text("c2 1;;", -11, 5);
        text("c2 1;x", -11, 5);
        text("c2 1;" + (char) 9, -11, 5);
        text("c", -11, 1);
        text("c  ", -11, 3);
        text("c2", -11, 2);
        text("c2;", -11, 2);
        text("c2,1;", -11, 2);
        text("c2 1", -11, 4);
        text("c2 1,", -11, 4);
        text("c2 1 2;", -11, 5);
        text("c-2 1;", -11, 1);
        text("c2 1;p", -11, 6);
        text("c2 1;p;", -11, 6);
        text("c2 1;p30;", -11, 8);
        text("c2 1;p30", -11, 8);
        text("c2 1;p3 0,30;", -11, 8);
        text("c2 1;p60,0,0;", -11, 10);
        text("c2 1;p60,0", -11, 10);
        text("c3 1;p60,0;", -11, 10);
        text(TWO + "t;", -11, 18);
        text(TWO + "t0;", -11, 19);
        text(TWO + "t01;", -11, 20);
        text(TWO + "t0,1;", -11, 19);
        text(TWO + "t0 1,;", -11, 22);
        text(TWO + "t0 1", -11, 21);
        text(TWO + "t" + TEN + ",0 1;", -11, 18 + TEN.length());
        text(TWO + "t" + TEN + ",", -11, 18 + TEN.length());
        text(TWO + "g;", -11, 18);
        text(TWO + "g0", -11, 19);
        text(TWO + "g0,1;", -11, 19);
        text(TWO + "h0 1;", -11, 20);
    }

    private static void numbers() {
        text("c1 1;", -12, 1);
        text("c6 1;", -12, 1);
        text("c21;", -12, 1);
        text("c0002 1;", -12, 1);
        text("c2 0;", -12, 3);
        text("c2 31;", -12, 3);
        text("c2 0001;", -12, 3);
        text("c2 99999999999999999999;", -12, 3);
        text("c2 4294967297;", -12, 3);
        text("c2 1;p61,0;", -12, 6);
        text("c2 1;p60,0000;", -12, 9);
        text("c2 1;p0,100;", -12, 8);
        text("c2 1;g0;", -12, 6);
        text("c2 1;h0;", -12, 6);
        text("c2 1;t0 1;", -12, 6);
        text(TWO + "g2;", -12, 18);
        text(TWO + "h 2;", -12, 19);
        text(TWO + "t2 0;", -12, 18);
        text(TWO + "t0 2;", -12, 20);
        text(TWO + "t0 1,1 0,7 1;", -12, 26);
        text(TWO + "g0000;", -12, 18);
    }

    private static void again() {
        text("c2 1;c3 1;", -13, 5);
        text("c2 1;p60,0;p60,0;p60,0;p60,0;p60,0;p60,0;p60,0;", -13, 41);
        text(TWO + "t0 1;t1 0;", -13, 22);
        text(TWO + "t0 1; t", -13, 23);
        text(TWO + "c", -13, 17);
    }

    private static void otherFaults() {
        text("c2 1;p30,29;", -14, 9);
        text("c2 1;p30,31;", -14, 9);
        text("c3 1;p40,40,0;", -14, 12);
        text("c2 1;p0,0,60;", -14, 8);
        text(TWO + "g0;g0;", -14, 21);
        text(TWO + "h1;h1;", -14, 21);
        text(TWO + "h1;g1;", -14, 21);
        text(TWO + "g 1 ; h 01;", -14, 25);
        text(TWO + "t0 0;", -14, 20);
        text(TWO + "t0 1,1 1;", -14, 24);
        text(TWO + "t1  001x", -14, 21);
    }

    private static void leastOfOneLetter() {
        text("c2 1;p0,61;", -12, 8);
        text("c2 1;p0,0061;", -12, 8);
        text("t", -11, 0);
        text("c2 1;p60,0;t1 1;", -12, 12);
    }

    private static void whatHouseChanges() {
        RubbedColours x = Check.houseOf("c2 30;p60,0;p0,60;g1;t0 1;");
        x.seed(77);
        x.glove(1, false);
        x.touch(0, 1);
        x.wash(0);
        x.keep(0);
        x.touch(0, 1);
        x.see(0, 0, 1);
        x.write(0, 0, 1);
        x.feed(120);
        CHECK.due("house() with a fault", x.house(), -11);
        CHECK.due("fault()", x.fault(), 0);
        CHECK.due("colours stay", x.told(0), 2);
        CHECK.due("gloves stay", x.told(5), 0);
        CHECK.due("soap stays", x.told(7), 1);
        CHECK.due("touches stay", x.told(8), 2);
        CHECK.due("seen stays", x.told(9), 1);
        CHECK.due("book stays", x.told(10), 1);
        CHECK.due("undo stays", x.told(11), 1);
        CHECK.due("own parts stay", x.own(0, 0), 60);
        CHECK.due("a fault is told till the next house()", x.fault(), 0);
        CHECK.due("image stays", x.goBack(0), 1);
        x.touch(0, 1);

        Check.feedAll(x, "c2 30;p60,0;p0,60;g1;");
        CHECK.due("house()", x.house(), 2);
        CHECK.due("fault() is gone", x.fault(), Check.NONE);
        CHECK.due("the day is gone", x.told(3), 0);
        CHECK.due("gloves as told", x.told(5), 2);
        CHECK.due("parts are own ones", x.parts(0, 0), 60);
        for (int what = 7; what <= 11; what++) {
            CHECK.due("house(), then told(" + what + ")", x.told(what), 0);
        }
        CHECK.due("image 0 is gone", x.goBack(0), Check.NOT);
        CHECK.due("the seed stays", x.seed(0), 77);
        CHECK.due("house() of an empty text", x.house(), 0);
        CHECK.due("no colours", x.told(0), 0);
        CHECK.due("no rub", x.told(1), 0);
        CHECK.due("no coats", x.told(2), 0);
        CHECK.due("no gloves", x.told(5), 0);
        CHECK.due("parts(0, 0)", x.parts(0, 0), Check.UNKNOWN);
        Check.feedAll(x, "c2 1;p60,0;h0;");
        CHECK.due("house() with a dog", x.house() + 10 * x.told(6), 11);
        Check.feedAll(x, "c2 1;p60,0;");
        CHECK.due("house() without", x.house() + 10 * x.told(6), 1);
    }
}
