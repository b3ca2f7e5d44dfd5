/** Promises 26 to 31: what was seen, the gap, the next look, the book. */
public final class SeenTest {
    private static final Check CHECK = new Check("SeenTest");
    /** Ends of coats 0 to 3 in colour 0, without touch 0, 1, 2, none: 60 0 0 0, 30 30 0 0, 30 15 15 0, 30 15 7 8. */
    private static final String CHAIN = "c2 30;p60,0;p0,60;p0,60;p0,60;t0 1,1 2,2 3;";

    public static void main(String[] args) {
        see();
        gap();
        look();
        write();
        tear();
        judge();
        CHECK.end();
    }

    private static void see() {
        RubbedColours x = Check.houseOf(CHAIN);
        int[][] unknown = {{4, 0, 0}, {-1, 0, 0}, {0, 2, 99}, {0, -1, 0}};
        int[][] outside = {{0, 0, -1}, {0, 0, 61}};
        for (int n = 1; n <= 9; n++) {
            for (int[] u : unknown) {
                CHECK.due("see unknown", x.see(u[0], u[1], u[2]), Check.UNKNOWN);
            }
            for (int[] o : outside) {
                CHECK.due("see outside", x.see(o[0], o[1], o[2]), Check.OUTSIDE);
            }
            CHECK.due("see, the " + n + "th", x.see(0, 0, n == 1 ? 0 : 60), n < 9 ? n : Check.FULL);
        }
        CHECK.due("told(9)", x.told(9), 8);
    }

    private static void gap() {
        RubbedColours x = Check.houseOf(CHAIN);
        CHECK.due("gap() of nothing seen", x.gap(), 15);
        x.see(0, 0, 30);
        CHECK.due("gap() by coat 0", x.gap(), 14);
        x.see(1, 0, 15);
        CHECK.due("gap() by coats 0, 1", x.gap(), 12);
        x.see(3, 1, 52);
        CHECK.due("gap(): none was left out", x.gap(), 8);
        x.see(3, 1, 60);
        CHECK.due("gap(): nothing fits", x.gap(), 0);
        x.tear();
        x.see(0, 0, 60);
        CHECK.due("gap(): touch 0", x.gap(), 1);
        x.glove(0, true);
        CHECK.due("gap() in gloves", x.gap(), 15);
        RubbedColours ten = Check.houseOf("c2 1;p60,0;p0,60;t0 1,0 1,0 1,0 1,0 1,0 1,0 1,0 1,0 1,0 1;");
        CHECK.due("gap() of ten touches", ten.gap(), 2047);
        ten.see(0, 0, ten.shows(0, 0, 10));
        CHECK.due("gap() of ten like ones: none was left out", ten.gap(), 1024);
        RubbedColours none = Check.houseOf("c2 1;p60,0;");
        CHECK.due("gap() of no day", none.gap(), 1);
        none.see(0, 0, 59);
        CHECK.due("gap() of no day, nothing fits", none.gap(), 0);
    }

    private static void look() {
        RubbedColours x = Check.houseOf(CHAIN);
        // coat 0 parts them 1 and 3, coat 1 1, 1 and 2, coat 2 2, 1 and 1: coat 1 is first of the best
        CHECK.due("look()", x.look(), 10);
        x.see(1, 0, 15);
        CHECK.due("look() of two", x.look(), 20);
        x.see(2, 0, 7);
        CHECK.due("look() of one", x.look(), Check.NONE);
        x.see(2, 0, 8);
        CHECK.due("look() of none", x.look(), Check.NONE);
        RubbedColours like = Check.houseOf("c2 30;p60,0;p60,0;t0 1,1 0;");
        CHECK.due("gap() of likes", like.gap(), 7);
        CHECK.due("look(): none parts them", like.look(), Check.NONE);
        RubbedColours colour = Check.houseOf("c3 30;p30,30,0;p30,0,30;t0 1;");
        CHECK.due("look(): colour 0 does not part, 1 does", colour.look(), 1);
    }

    private static void write() {
        RubbedColours x = Check.houseOf(CHAIN);
        for (int n = 1; n <= 15; n++) {
            CHECK.due("write, the " + n + "th", x.write(3, 1, n), n);
        }
        CHECK.due("write, full", x.write(3, 1, 1), Check.FULL);
        CHECK.due("write, full and outside", x.write(3, 1, 61), Check.OUTSIDE);
        CHECK.due("write(0, 0, -1)", x.write(0, 0, -1), Check.OUTSIDE);
        CHECK.due("write(4, 0, 99)", x.write(4, 0, 99), Check.UNKNOWN);
        CHECK.due("write(-1, 0, 0)", x.write(-1, 0, 0), Check.UNKNOWN);
        CHECK.due("write(0, 2, 0)", x.write(0, 2, 0), Check.UNKNOWN);
        CHECK.due("write(0, -1, 0)", x.write(0, -1, 0), Check.UNKNOWN);
        CHECK.due("told(10)", x.told(10), 15);
        CHECK.due("told(9)", x.told(9), 0);
    }

    private static void tear() {
        RubbedColours x = Check.houseOf(CHAIN);
        CHECK.due("tear() of nothing", x.tear(), 0);
        x.see(0, 0, 1);
        x.see(0, 0, 2);
        x.write(0, 0, 1);
        CHECK.due("tear()", x.tear(), 3);
        CHECK.due("told(9)", x.told(9), 0);
        CHECK.due("told(10)", x.told(10), 0);
        CHECK.due("judge() behind tear()", x.judge(), Check.NONE);
        CHECK.due("gap() behind tear()", x.gap(), 15);
        CHECK.due("tear() again", x.tear(), 0);
        CHECK.due("see behind tear()", x.see(0, 0, 1), 1);
        CHECK.due("write behind tear()", x.write(0, 0, 1), 1);
    }

    private static void judge() {
        RubbedColours x = Check.houseOf(CHAIN);
        CHECK.due("judge() of no book", x.judge(), Check.NONE);
        x.write(0, 0, 60);
        x.write(1, 1, 60);
        CHECK.due("judge()", x.judge(), Check.NONE);
        x.write(0, 0, 30);
        x.write(0, 0, 31);
        CHECK.due("judge(), the third", x.judge(), 2);
        x.touch(0, 1);
        CHECK.due("judge() is of now", x.judge(), 0);
        x.undo();
        CHECK.due("judge() behind undo()", x.judge(), 2);
        CHECK.due("the book stays behind undo()", x.told(10), 4);
    }
}
