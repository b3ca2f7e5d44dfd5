/** Promises 5 to 9: what is told of a house, parts, own parts, gifts, the day. */
public final class HouseTest {
    private static final Check CHECK = new Check("HouseTest");
    private static final String HOUSE = "c3 10;p60,0,0;p0,60,0;p20,20,20;p0,0,60;h3;g2;t0 1,1 3,0 2,3 0;";

    public static void main(String[] args) {
        told();
        partsAndOwn();
        gives();
        planned();
        CHECK.end();
    }

    private static void told() {
        RubbedColours x = Check.houseOf(HOUSE);
        int[] atFirst = {3, 10, 4, 4, 0, 4, 8, 0, 0, 0, 0, 0};
        for (int what = 0; what < atFirst.length; what++) {
            CHECK.due("told(" + what + ")", x.told(what), atFirst[what]);
        }
        CHECK.due("told(-1)", x.told(-1), Check.OUTSIDE);
        CHECK.due("told(12)", x.told(12), Check.OUTSIDE);
        CHECK.due("told(greatest)", x.told(Integer.MAX_VALUE), Check.OUTSIDE);
        x.feed(32);
        x.feed(32);
        x.glove(0, true);
        x.wash(1);
        x.touch(0, 3);
        x.see(0, 0, 5);
        x.see(0, 0, 5);
        x.see(0, 0, 5);
        x.write(1, 1, 5);
        x.write(1, 1, 5);
        int[] later = {3, 10, 4, 4, 2, 5, 8, 1, 1, 3, 2, 3};
        for (int what = 0; what < later.length; what++) {
            CHECK.due("later told(" + what + ")", x.told(what), later[what]);
        }
    }

    private static void partsAndOwn() {
        RubbedColours x = Check.houseOf(HOUSE);
        int[][] own = {{60, 0, 0}, {0, 60, 0}, {20, 20, 20}, {0, 0, 60}};
        x.touch(0, 1);
        int[][] now = {{50, 10, 0}, {10, 50, 0}, {20, 20, 20}, {0, 0, 60}};
        for (int a = 0; a < 4; a++) {
            for (int c = 0; c < 3; c++) {
                CHECK.due("own(" + a + ", " + c + ")", x.own(a, c), own[a][c]);
                CHECK.due("parts(" + a + ", " + c + ")", x.parts(a, c), now[a][c]);
            }
        }
        int[][] unknown = {{-1, 0}, {4, 0}, {0, -1}, {0, 3}, {Integer.MAX_VALUE, 0}, {0, Integer.MIN_VALUE}};
        for (int[] u : unknown) {
            CHECK.due("parts(" + u[0] + ", " + u[1] + ")", x.parts(u[0], u[1]), Check.UNKNOWN);
            CHECK.due("own(" + u[0] + ", " + u[1] + ")", x.own(u[0], u[1]), Check.UNKNOWN);
            CHECK.due("gives(" + u[0] + ", " + u[1] + ")", x.gives(u[0], u[1]), Check.UNKNOWN);
        }
    }

    private static void gift(String colours, String coat, int... due) {
        RubbedColours x = Check.houseOf(colours + coat);
        for (int c = 0; c < due.length; c++) {
            CHECK.due(colours + coat + " gives(0, " + c + ")", x.gives(0, c), due[c]);
        }
    }

    private static void gives() {
        gift("c3 10;", "p60,0,0;", 10, 0, 0);
        gift("c3 10;", "p20,20,20;", 4, 3, 3);
        gift("c2 30;", "p1,59;", 1, 29);
        gift("c2 30;", "p59,1;", 30, 0);
        gift("c3 7;", "p10,25,25;", 1, 3, 3);
        gift("c3 11;", "p13,17,30;", 2, 3, 6);
        gift("c5 1;", "p12,12,12,12,12;", 1, 0, 0, 0, 0);
        gift("c5 4;", "p12,12,12,12,12;", 1, 1, 1, 1, 0);
        gift("c4 1;", "p14,15,16,15;", 0, 0, 1, 0);
        gift("c4 2;", "p15,14,15,16;", 1, 0, 0, 1);
        RubbedColours x = Check.houseOf("c2 30;p60,0;p0,60;");
        x.touch(0, 1);
        CHECK.due("gives is of now", x.gives(0, 1), 15);
    }

    private static void planned() {
        RubbedColours x = Check.houseOf(HOUSE);
        int[] due = {1, 13, 2, 30};
        for (int k = 0; k < due.length; k++) {
            CHECK.due("planned(" + k + ")", x.planned(k), due[k]);
        }
        CHECK.due("planned(4)", x.planned(4), Check.UNKNOWN);
        CHECK.due("planned(-1)", x.planned(-1), Check.UNKNOWN);
        CHECK.due("planned(greatest)", x.planned(Integer.MAX_VALUE), Check.UNKNOWN);
        CHECK.due("no day, planned(0)", Check.houseOf("c2 1;p60,0;").planned(0), Check.UNKNOWN);
    }
}
