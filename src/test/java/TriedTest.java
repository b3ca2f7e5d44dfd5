/** Promises 16 to 25: what is only tried, from now. */
public final class TriedTest {
    private static final Check CHECK = new Check("TriedTest");
    /** Behind its touches coats 0 to 3 have of colour 0: 60 0 0 0; 30 30 0 0; 30 15 15 0; 30 15 7 8. */
    private static final String CHAIN = "c2 30;p60,0;p0,60;p0,60;p0,60;t0 1,1 2,2 3;";
    private static final String SWAP = "c2 30;p1,59;p0,60;";

    public static void main(String[] args) {
        shows();
        alike();
        trail();
        came();
        cameAtOnce();
        met();
        leftOut();
        washes();
        rest();
        rain();
        blend();
        nothingChanges();
        CHECK.end();
    }

    private static void shows() {
        RubbedColours x = Check.houseOf(CHAIN);
        int[][] due = {{60, 0, 0, 0}, {30, 30, 0, 0}, {30, 15, 15, 0}, {30, 15, 7, 8}};
        for (int k = 0; k < due.length; k++) {
            for (int a = 0; a < 4; a++) {
                CHECK.due("shows(" + a + ", 0, " + k + ")", x.shows(a, 0, k), due[k][a]);
                CHECK.due("shows(" + a + ", 1, " + k + ")", x.shows(a, 1, k), 60 - due[k][a]);
            }
        }
        CHECK.due("shows(0, 0, 4)", x.shows(0, 0, 4), Check.OUTSIDE);
        CHECK.due("shows(0, 0, -1)", x.shows(0, 0, -1), Check.OUTSIDE);
        CHECK.due("shows(4, 0, 9)", x.shows(4, 0, 9), Check.UNKNOWN);
        CHECK.due("shows(-1, 0, 0)", x.shows(-1, 0, 0), Check.UNKNOWN);
        CHECK.due("shows(0, 2, 0)", x.shows(0, 2, 0), Check.UNKNOWN);
        CHECK.due("shows(0, -1, 0)", x.shows(0, -1, 0), Check.UNKNOWN);
        x.glove(1, true);
        CHECK.due("shows(0, 0, 3) with gloves", x.shows(0, 0, 3), 60);
        x.glove(1, false);
        x.touch(0, 1);
        CHECK.due("shows(0, 0, 0) is now", x.shows(0, 0, 0), 30);
        RubbedColours none = Check.houseOf(SWAP);
        CHECK.due("no day, shows(0, 0, 0)", none.shows(0, 0, 0), 1);
        CHECK.due("no day, shows(0, 0, 1)", none.shows(0, 0, 1), Check.OUTSIDE);
    }

    private static void alike() {
        RubbedColours x = Check.houseOf(CHAIN);
        CHECK.due("alike(1, 2)", x.alike(1, 2), 0);
        CHECK.due("alike(0, 1)", x.alike(0, 1), 1);
        CHECK.due("alike(1, 0)", x.alike(1, 0), 1);
        CHECK.due("alike(0, 3)", x.alike(0, 3), Check.NONE);
        CHECK.due("alike(0, 0)", x.alike(0, 0), Check.UNKNOWN);
        CHECK.due("alike(0, 4)", x.alike(0, 4), Check.UNKNOWN);
        CHECK.due("alike(-1, 0)", x.alike(-1, 0), Check.UNKNOWN);
        RubbedColours last = Check.houseOf("c2 30;p60,0;p0,60;p30,30;t2 1,2 1,0 1;");
        CHECK.due("alike behind the last", last.alike(0, 1), Check.NONE);
        RubbedColours end = Check.houseOf("c2 30;p60,0;p0,60;t0 1;");
        CHECK.due("alike(0, 1) behind the only", end.alike(0, 1), 1);
        RubbedColours three = Check.houseOf("c3 1;p20,20,20;p20,30,10;");
        CHECK.due("alike in one colour alone", three.alike(0, 1), Check.NONE);
    }

    private static void trail() {
        RubbedColours x = Check.houseOf(CHAIN);
        CHECK.due("trail(0, 3, 0)", x.trail(0, 3, 0), 2);
        CHECK.due("trail(0, 3, 1)", x.trail(0, 3, 1), 2);
        CHECK.due("trail(1, 1, 0): lost first", x.trail(1, 1, 0), 1);
        CHECK.due("trail(1, 1, 1)", x.trail(1, 1, 1), 2);
        CHECK.due("trail(0, 1, 1)", x.trail(0, 1, 1), 0);
        CHECK.due("trail(0, 0, 0)", x.trail(0, 0, 0), Check.NONE);
        CHECK.due("trail(0, 0, 1)", x.trail(0, 0, 1), Check.NONE);
        CHECK.due("trail(0, 0, 2)", x.trail(0, 0, 2), Check.OUTSIDE);
        CHECK.due("trail(0, 0, -1)", x.trail(0, 0, -1), Check.OUTSIDE);
        CHECK.due("trail(2, 0, 5)", x.trail(2, 0, 5), Check.UNKNOWN);
        CHECK.due("trail(0, 4, 0)", x.trail(0, 4, 0), Check.UNKNOWN);
        CHECK.due("trail(-1, 0, 0)", x.trail(-1, 0, 0), Check.UNKNOWN);
        CHECK.due("trail(3, 1, 0): the colour comes first", x.trail(3, 1, 0), Check.UNKNOWN);
        x.glove(1, true);
        CHECK.due("trail(0, 1, 0) in gloves", x.trail(0, 1, 0), Check.NONE);
    }

    private static void came() {
        RubbedColours x = Check.houseOf("c2 30;p60,0;p0,60;p0,60;");
        CHECK.due("came 2 fewest", x.came(2, 0, 15, 1, 45, -1), 2);
        CHECK.due("came 2 rows: 1 2, 1 12, 2 12", x.came(2, 0, 15, 1, 45, -2), 3);
        CHECK.due("came 2 the 0th", x.came(2, 0, 15, 1, 45, 0), 1);
        CHECK.due("came 2 the 1st", x.came(2, 0, 15, 1, 45, 1), 2);
        CHECK.due("came 2 the 2nd", x.came(2, 0, 15, 1, 45, 2), Check.NONE);
        CHECK.due("came 2 the greatest", x.came(2, 0, 15, 1, 45, Integer.MAX_VALUE), Check.NONE);
        CHECK.due("came 2, i = -3", x.came(2, 0, 15, 1, 45, -3), Check.NONE);
        CHECK.due("came 2, the least i", x.came(2, 0, 15, 1, 45, Integer.MIN_VALUE), Check.NONE);
        CHECK.due("came never, i = -3", x.came(2, 0, 60, 1, 60, -3), Check.NONE);
        CHECK.due("came, colours turned", x.came(2, 1, 45, 0, 15, -2), 3);
        CHECK.due("came never", x.came(2, 0, 60, 1, 60, -1), Check.NONE);
        CHECK.due("came never, rows", x.came(2, 0, 60, 1, 60, -2), Check.NONE);
        CHECK.due("came never, the 0th", x.came(2, 0, 60, 1, 60, 0), Check.NONE);
        CHECK.due("came, one colour fits", x.came(2, 0, 15, 1, 44, -1), Check.NONE);
        CHECK.due("came in 1", x.came(1, 0, 30, 1, 30, -1), 1);
        CHECK.due("came in 1 rows", x.came(1, 0, 30, 1, 30, -2), 1);
        CHECK.due("came in 1 the 0th", x.came(1, 0, 30, 1, 30, 0), 1);
        CHECK.due("came in 1, coat 2: the lesser first", x.came(2, 0, 30, 1, 30, 0), 2);
        x.glove(1, true);
        CHECK.due("came past gloves", x.came(2, 0, 15, 1, 45, -1), Check.NONE);
        x.glove(1, false);
        RubbedColours later = Check.houseOf("c2 30;p60,0;p60,0;p0,60;g0;");
        CHECK.due("came by 1 and 2", later.came(2, 0, 30, 1, 30, 0), 12);
        CHECK.due("came by 1 and 2, rows", later.came(2, 0, 30, 1, 30, -2), 1);
        RubbedColours chain = Check.houseOf(CHAIN);
        CHECK.due("came in 3", chain.came(3, 0, 8, 1, 52, -1), 3);
        CHECK.due("came in 3 the 0th", chain.came(3, 0, 8, 1, 52, 0), 1);
        CHECK.due("came in 3 the 1st", chain.came(3, 0, 8, 1, 52, 1), 2);
        CHECK.due("came in 3 the 2nd", chain.came(3, 0, 8, 1, 52, 2), 3);
        CHECK.due("came in 4 is too far", chain.came(3, 0, 4, 1, 56, -1), Check.NONE);
        int[][] unknown = {{3, 0, 0, 1, 0, 0}, {-1, 0, 0, 1, 0, 0}, {0, 2, 0, 1, 0, 0}, {0, -1, 0, 1, 0, 0},
            {0, 0, 0, 2, 0, 0}, {0, 0, 0, -1, 0, 0}, {0, 0, 99, 0, -9, -9}, {0, 1, 0, 1, 0, 0}};
        for (int[] u : unknown) {
            CHECK.due("came unknown", x.came(u[0], u[1], u[2], u[3], u[4], u[5]), Check.UNKNOWN);
        }
        int[][] outside = {{0, 0, -1, 1, 0, 0}, {0, 0, 61, 1, 0, 0}, {0, 0, 0, 1, -1, 0}, {0, 0, 0, 1, 61, 0}};
        for (int[] o : outside) {
            CHECK.due("came outside", x.came(o[0], o[1], o[2], o[3], o[4], o[5]), Check.OUTSIDE);
        }
    }

    private static void cameAtOnce() {
        RubbedColours x = Check.houseOf(CHAIN);
        CHECK.due("came in 0", x.came(0, 0, 60, 1, 0, -1), 0);
        CHECK.due("came in 0 rows: the empty one", x.came(0, 0, 60, 1, 0, -2), 1);
        CHECK.due("came in 0 the 0th", x.came(0, 0, 60, 1, 0, 0), Check.NONE);
        CHECK.due("came in 0, i = -3", x.came(0, 0, 60, 1, 0, -3), Check.NONE);
        RubbedColours one = Check.houseOf("c2 1;p60,0;");
        CHECK.due("came of one coat", one.came(0, 0, 59, 1, 1, -1), Check.NONE);
    }

    private static void met() {
        RubbedColours x = Check.houseOf(CHAIN);
        CHECK.due("met(0, 30, 30, 0)", x.met(0, 30, 30, 0), 3);
        CHECK.due("met(0, 30, 30, 1)", x.met(0, 30, 30, 1), 1);
        CHECK.due("met(0, 0, 0, 0)", x.met(0, 0, 0, 0), 3);
        CHECK.due("met(0, 0, 0, 1)", x.met(0, 0, 0, 1), 12);
        CHECK.due("met(0, 30, 0, 0)", x.met(0, 30, 0, 0), 0);
        CHECK.due("met(0, 30, 0, 1)", x.met(0, 30, 0, 1), Check.NONE);
        x.glove(0, true);
        CHECK.due("met in gloves: nothing happens", x.met(0, 0, 60, 0), 3);
        CHECK.due("met in gloves, the other way round", x.met(0, 60, 0, 1), 1);
        RubbedColours turned = Check.houseOf("c2 30;p30,30;p1,59;p0,60;");
        CHECK.due("met of 1 and 2, the greater has more", turned.met(0, 0, 1, 1), 12);
        CHECK.due("met of 1 and 2, either way", turned.met(0, 1, 0, 0), 1);
        CHECK.due("met(2, 0, 0, 0)", x.met(2, 0, 0, 0), Check.UNKNOWN);
        CHECK.due("met(-1, 99, 0, 0)", x.met(-1, 99, 0, 0), Check.UNKNOWN);
        int[][] outside = {{-1, 0, 0}, {61, 0, 0}, {0, -1, 0}, {0, 61, 0}, {0, 0, -1}, {0, 0, 2}};
        for (int[] o : outside) {
            CHECK.due("met outside", x.met(0, o[0], o[1], o[2]), Check.OUTSIDE);
        }
    }

    private static void leftOut() {
        RubbedColours x = Check.houseOf(CHAIN);
        CHECK.due("leftOut(3, 0, 8, 0)", x.leftOut(3, 0, 8, 0), 0);
        CHECK.due("leftOut(3, 0, 8, 1)", x.leftOut(3, 0, 8, 1), 0);
        CHECK.due("leftOut(3, 0, 7, 0)", x.leftOut(3, 0, 7, 0), 1);
        CHECK.due("leftOut(3, 0, 7, 1): the least set", x.leftOut(3, 0, 7, 1), 1);
        CHECK.due("leftOut(0, 0, 29, 0): none helps", x.leftOut(0, 0, 29, 0), Check.NONE);
        CHECK.due("leftOut(0, 0, 29, 1)", x.leftOut(0, 0, 29, 1), Check.NONE);
        CHECK.due("leftOut(1, 1, 44, 0)", x.leftOut(1, 1, 44, 0), 1);
        CHECK.due("leftOut(1, 1, 44, 1)", x.leftOut(1, 1, 44, 1), 2);
        RubbedColours two = Check.houseOf("c2 30;p60,0;p0,60;p0,60;t0 2,1 2,0 2;");
        CHECK.due("both must be left out, how many", two.leftOut(2, 0, 0, 0), 2);
        CHECK.due("both must be left out", two.leftOut(2, 0, 0, 1), 5);
        two.glove(0, true);
        CHECK.due("nothing must be, in gloves", two.leftOut(2, 0, 0, 0), 0);
        RubbedColours none = Check.houseOf(SWAP);
        CHECK.due("no day, enough", none.leftOut(0, 0, 1, 1), 0);
        CHECK.due("no day, too much", none.leftOut(0, 0, 0, 1), Check.NONE);
        CHECK.due("leftOut(4, 0, 0, 0)", x.leftOut(4, 0, 0, 0), Check.UNKNOWN);
        CHECK.due("leftOut(0, 2, 99, 9)", x.leftOut(0, 2, 99, 9), Check.UNKNOWN);
        CHECK.due("leftOut(0, 0, -1, 0)", x.leftOut(0, 0, -1, 0), Check.OUTSIDE);
        CHECK.due("leftOut(0, 0, 61, 0)", x.leftOut(0, 0, 61, 0), Check.OUTSIDE);
        CHECK.due("leftOut(0, 0, 60, 2)", x.leftOut(0, 0, 60, 2), Check.OUTSIDE);
        CHECK.due("leftOut(0, 0, 60, -1)", x.leftOut(0, 0, 60, -1), Check.OUTSIDE);
    }

    private static void washes() {
        // at the end coats 0 to 2 have of colour 0: 45, 22, 23
        String text = "c2 30;p30,30;p60,0;p0,60;t0 1,1 2;";
        RubbedColours x = Check.houseOf(text);
        CHECK.due("washes(0, 45)", x.washes(0, 45), 0);
        CHECK.due("washes(0, 44)", x.washes(0, 44), 1);
        CHECK.due("washes(0, 30): as much of its own", x.washes(0, 30), 1);
        CHECK.due("washes(0, 29): more of its own", x.washes(0, 29), Check.NONE);
        CHECK.due("washes(0, 60)", x.washes(0, 60), 0);
        CHECK.due("washes of a dog", Check.houseOf(text + "h0;").washes(0, 30), Check.NONE);
        CHECK.due("washes, another is a dog", Check.houseOf(text + "h1;").washes(0, 30), 1);
        // at the end coats 0 to 3 have of colour 0: 40, 30, 15, 15
        String more = "c3 30;p20,40,0;p20,0,40;p60,0,0;p0,60,0;t0 2,1 2,2 3;";
        RubbedColours two = Check.houseOf(more);
        CHECK.due("washes of one", two.washes(0, 30), 1);
        CHECK.due("washes of two", two.washes(0, 29), 3);
        CHECK.due("washes of two, more of their own", two.washes(0, 19), Check.NONE);
        CHECK.due("washes of one and of a dog", Check.houseOf(more + "h1;").washes(0, 29), Check.NONE);
        two.glove(2, true);
        CHECK.due("washes in gloves", two.washes(0, 20), Check.NONE);
        CHECK.due("washes in gloves, the last has all", two.washes(0, 60), 0);
        CHECK.due("no day", Check.houseOf("c2 30;p60,0;").washes(0, 60), 0);
        CHECK.due("no coats", Check.houseOf("c2 30;").washes(0, 0), 0);
        CHECK.due("washes(2, 0)", x.washes(2, 0), Check.UNKNOWN);
        CHECK.due("washes(-1, 99)", x.washes(-1, 99), Check.UNKNOWN);
        CHECK.due("washes(0, -1)", x.washes(0, -1), Check.OUTSIDE);
        CHECK.due("washes(0, 61)", x.washes(0, 61), Check.OUTSIDE);
    }

    private static void rest() {
        RubbedColours x = Check.houseOf("c2 30;p60,0;p0,60;t0 1;");
        CHECK.due("rest(-1, 0)", x.rest(-1, 0), 1);
        CHECK.due("rest(-1, 99)", x.rest(-1, 99), 1);
        CHECK.due("rest(0, 0)", x.rest(0, 0), 30);
        CHECK.due("rest(1, 1)", x.rest(1, 1), 30);
        CHECK.due("rest(2, 0)", x.rest(2, 0), Check.UNKNOWN);
        CHECK.due("rest(-2, 0)", x.rest(-2, 0), Check.UNKNOWN);
        CHECK.due("rest(0, 2)", x.rest(0, 2), Check.UNKNOWN);
        CHECK.due("rest(0, -1)", x.rest(0, -1), Check.UNKNOWN);
        x.day();
        CHECK.due("rest(-1, 0) behind the day", x.rest(-1, 0), 0);
        CHECK.due("no day: rest at once", Check.houseOf(SWAP).rest(-1, 0), 0);
        CHECK.due("no day: rest(0, 1)", Check.houseOf(SWAP).rest(0, 1), 59);
        RubbedColours swap = Check.houseOf(SWAP + "t0 1;");
        CHECK.due("never at rest", swap.rest(-1, 0), Check.NONE);
        CHECK.due("never at rest, rest(0, 0)", swap.rest(0, 0), Check.NONE);
        CHECK.due("never at rest, rest(9, 0)", swap.rest(9, 0), Check.UNKNOWN);
        RubbedColours twice = Check.houseOf(SWAP + "t0 1,1 0;");
        CHECK.due("a day that changes nothing in the end", twice.rest(-1, 0), 0);
        CHECK.due("its rest(0, 0)", twice.rest(0, 0), 1);
        RubbedColours slow = Check.houseOf("c3 1;p0,60,0;p60,0,0;p0,0,60;p60,0,0;p0,60,0;p0,0,60;t2 5,0 3,1 3,3 2,3 4,0 3;");
        CHECK.due("a long way to rest", slow.rest(-1, 0), 94);
        RubbedColours gloves = Check.houseOf("c2 30;p60,0;p0,60;t0 1;g0;");
        CHECK.due("rest in gloves", gloves.rest(-1, 0), 0);
    }

    private static void rain() {
        RubbedColours x = Check.houseOf("c2 1;p60,0;p60,0;p60,0;p60,0;p60,0;p60,0;");
        CHECK.due("rain of six, cut", x.rain(0, 59, 33), 1291467);
        CHECK.due("rain of six, cut for each: at the end alone it were 1 more", x.rain(0, 59, 99), 941480148);
        CHECK.due("rain(0, 60, 33): nobody", x.rain(0, 60, 33), 1000000000);
        CHECK.due("rain(0, 0, 0)", x.rain(0, 0, 0), 0);
        CHECK.due("rain(0, 0, 100)", x.rain(0, 0, 100), 1000000000);
        CHECK.due("rain(1, 0, 0)", x.rain(1, 0, 0), 1000000000);
        CHECK.due("rain(2, 0, 0)", x.rain(2, 0, 0), Check.UNKNOWN);
        CHECK.due("rain(-1, 99, 999)", x.rain(-1, 99, 999), Check.UNKNOWN);
        CHECK.due("rain(0, -1, 0)", x.rain(0, -1, 0), Check.OUTSIDE);
        CHECK.due("rain(0, 61, 0)", x.rain(0, 61, 0), Check.OUTSIDE);
        CHECK.due("rain(0, 0, -1)", x.rain(0, 0, -1), Check.OUTSIDE);
        CHECK.due("rain(0, 0, 101)", x.rain(0, 0, 101), Check.OUTSIDE);
        RubbedColours dog = Check.houseOf("c2 1;p60,0;p60,0;p60,0;h1;g2;");
        CHECK.due("rain but dogs", dog.rain(0, 0, 50), 250000000);
        RubbedColours later = Check.houseOf("c2 30;p60,0;p0,60;t0 1;");
        CHECK.due("rain is now, not at the end", later.rain(0, 20, 50), 500000000);
        later.touch(0, 1);
        CHECK.due("rain behind a touch", later.rain(0, 29, 50), 250000000);
    }

    private static void blend() {
        RubbedColours x = Check.houseOf("c2 30;p60,0;p1,59;p0,60;");
        CHECK.due("blend(7, 0)", x.blend(7, 0), 20);
        CHECK.due("blend(6, 0), cut", x.blend(6, 0), 0);
        CHECK.due("blend(6, 1), cut", x.blend(6, 1), 59);
        CHECK.due("blend(4, 1)", x.blend(4, 1), 60);
        CHECK.due("blend(0, 0)", x.blend(0, 0), Check.NONE);
        CHECK.due("blend(0, 2)", x.blend(0, 2), Check.UNKNOWN);
        CHECK.due("blend(1, -1)", x.blend(1, -1), Check.UNKNOWN);
        CHECK.due("blend(8, 0)", x.blend(8, 0), Check.UNKNOWN);
        CHECK.due("blend(9, 0)", x.blend(9, 0), Check.UNKNOWN);
        CHECK.due("blend(-1, 0)", x.blend(-1, 0), Check.UNKNOWN);
        CHECK.due("blend(least, 0)", x.blend(Integer.MIN_VALUE, 0), Check.UNKNOWN);
        x.touch(0, 2);
        CHECK.due("blend of now", x.blend(1, 0), 30);
    }

    private static void nothingChanges() {
        RubbedColours x = Check.houseOf(CHAIN);
        x.seed(12);
        x.shows(3, 0, 3);
        x.alike(0, 3);
        x.trail(0, 3, 0);
        x.came(3, 0, 8, 1, 52, 0);
        x.met(0, 30, 30, 0);
        x.leftOut(3, 0, 7, 0);
        x.washes(0, 10);
        x.rest(-1, 0);
        x.rain(0, 10, 50);
        x.blend(3, 0);
        x.gap();
        x.look();
        x.judge();
        for (int a = 0; a < 4; a++) {
            CHECK.due("tried, parts(" + a + ", 0) stay", x.parts(a, 0), x.own(a, 0));
        }
        for (int what = 7; what <= 11; what++) {
            CHECK.due("tried, told(" + what + ")", x.told(what), 0);
        }
        CHECK.due("tried, the seed stays", x.seed(12), 12);
    }
}
