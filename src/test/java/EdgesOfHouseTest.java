/** Boundary cases of promises 5 to 9: told, parts, own, gives, planned. */
public final class EdgesOfHouseTest {
    private static final String TWO = "c2 30;p60,0;p0,60;";
    private static final String SIX = "c5 30;p60,0,0,0,0;p0,60,0,0,0;p0,0,60,0,0;p0,0,0,60,0;p0,0,0,0,60;p10,11,12,13,14;";
    private static final String TEN = "t0 1,1 2,2 3,3 4,4 5,5 0,0 2,1 3,2 4,5 3;";
    private static final int LEAST = Integer.MIN_VALUE;
    private static final int GREATEST = Integer.MAX_VALUE;

    public static void main(String[] args) {
        Edges.run(EdgesOfHouseTest.class);
    }

    // ---- 5: told

    @Edge(promise = 5, says = "OUTSIDE.")
    static void whatTooSmall(Check check) {
        RubbedColours x = Check.houseOf(TWO);
        check.due("told(-1)", x.told(-1), Check.OUTSIDE);
        check.due("told(least)", x.told(LEAST), Check.OUTSIDE);
    }

    @Edge(promise = 5, says = "OUTSIDE.")
    static void whatTooLarge(Check check) {
        RubbedColours x = Check.houseOf(TWO);
        check.due("told(11)", x.told(11), 0);
        check.due("told(12)", x.told(12), Check.OUTSIDE);
        check.due("told(greatest)", x.told(GREATEST), Check.OUTSIDE);
        check.due("told(12) without a house", new RubbedColours().told(12), Check.OUTSIDE);
    }

    @Edge(promise = 5, says = "0 COLOURS, 1 K, 2 COATS, 3 TOUCHES of THE DAY,")
    static void theLeastAndTheMostOfAHouse(Check check) {
        int[] least = {2, 1, 0, 0};
        int[] most = {5, 30, 6, 10};
        RubbedColours x = Check.houseOf("c2 1;");
        RubbedColours full = Check.houseOf(SIX + TEN);
        for (int what = 0; what < 4; what++) {
            check.due("least told(" + what + ")", x.told(what), least[what]);
            check.due("most told(" + what + ")", full.told(what), most[what]);
        }
    }

    @Edge(promise = 5, says = "4 letters of THE TEXT,")
    static void lettersFromNoneToFull(Check check) {
        RubbedColours x = Check.houseOf(TWO);
        check.due("none", x.told(4), 0);
        Check.feedAll(x, " ".repeat(241));
        check.due("full", x.told(4), 240);
    }

    @Edge(promise = 5, says = "5 who wears GLOVES, 6 DOGS (SETS),")
    static void setsFromNoneToAll(Check check) {
        RubbedColours x = Check.houseOf(SIX);
        check.due("no gloves", x.told(5), 0);
        check.due("no dogs", x.told(6), 0);
        for (int a = 0; a < 6; a++) {
            x.glove(a, true);
            check.due("gloves up to " + a, x.told(5), (2 << a) - 1);
        }
        RubbedColours dogs = Check.houseOf(SIX + "h5;h0;");
        check.due("dogs 0 and 5", dogs.told(6), 33);
        check.due("dogs wear none", dogs.told(5), 0);
    }

    @Edge(promise = 5, says = "7 SOAP, 8 TOUCHES,")
    static void soapAndTouches(Check check) {
        RubbedColours x = Check.houseOf(TWO + "t0 1,1 0;");
        x.wash(0);
        x.wash(0);
        x.touch(0, 1);
        x.day();
        check.due("told(7)", x.told(7), 2);
        check.due("told(8)", x.told(8), 3);
    }

    @Edge(promise = 5, says = "9 what was SEEN, 10 entries of THE BOOK,")
    static void seenAndBookFromNoneToFull(Check check) {
        RubbedColours x = Check.houseOf(TWO);
        for (int n = 0; n <= 16; n++) {
            check.due("told(9) behind " + n, x.told(9), Math.min(n, 8));
            check.due("told(10) behind " + n, x.told(10), Math.min(n, 15));
            x.see(0, 0, 60);
            x.write(0, 0, 60);
        }
    }

    @Edge(promise = 5, says = "11 how many can be undone.")
    static void undoneFromNoneToTwenty(Check check) {
        RubbedColours x = Check.houseOf(TWO);
        for (int n = 0; n <= 22; n++) {
            check.due("told(11) behind " + n, x.told(11), Math.min(n, 20));
            x.touch(0, 1);
        }
    }

    // ---- 6: parts

    @Edge(promise = 6, says = "Parts of a COLOUR on a COAT now.")
    static void partsOfTheFirstAndTheLast(Check check) {
        RubbedColours x = Check.houseOf(SIX);
        check.due("parts(0, 0)", x.parts(0, 0), 60);
        check.due("parts(0, 4)", x.parts(0, 4), 0);
        check.due("parts(5, 0)", x.parts(5, 0), 10);
        check.due("parts(5, 4)", x.parts(5, 4), 14);
        x.touch(0, 1);
        check.due("parts(0, 0) now", x.parts(0, 0), 30);
        x.undo();
        check.due("parts(0, 0) undone", x.parts(0, 0), 60);
    }

    @Edge(promise = 6, says = "UNKNOWN.")
    static void partsOfACoatThatThereIsNot(Check check) {
        RubbedColours x = Check.houseOf(TWO);
        check.due("parts(-1, 0)", x.parts(-1, 0), Check.UNKNOWN);
        check.due("parts(2, 0)", x.parts(2, 0), Check.UNKNOWN);
        check.due("parts(least, 0)", x.parts(LEAST, 0), Check.UNKNOWN);
        check.due("parts(greatest, 0)", x.parts(GREATEST, 0), Check.UNKNOWN);
        check.due("parts(6, 0) of six", Check.houseOf(SIX).parts(6, 0), Check.UNKNOWN);
    }

    @Edge(promise = 6, says = "UNKNOWN.")
    static void partsOfAColourThatThereIsNot(Check check) {
        RubbedColours x = Check.houseOf(TWO);
        check.due("parts(0, 2)", x.parts(0, 2), Check.UNKNOWN);
        check.due("parts(1, -1)", x.parts(1, -1), Check.UNKNOWN);
        check.due("parts(0, least)", x.parts(0, LEAST), Check.UNKNOWN);
        check.due("parts(0, greatest)", x.parts(0, GREATEST), Check.UNKNOWN);
        check.due("parts(0, 5) of five", Check.houseOf(SIX).parts(0, 5), Check.UNKNOWN);
    }

    // ---- 7: own

    @Edge(promise = 7, says = "Own parts of it.")
    static void ownPartsStayWhateverIsDone(Check check) {
        RubbedColours x = Check.houseOf(TWO + "t0 1;");
        x.touch(0, 1);
        x.wash(1);
        x.day();
        x.drift(9);
        check.due("own(0, 0)", x.own(0, 0), 60);
        check.due("own(0, 1)", x.own(0, 1), 0);
        check.due("own(1, 0)", x.own(1, 0), 0);
        check.due("own(1, 1)", x.own(1, 1), 60);
        check.due("own(5, 4) of six", Check.houseOf(SIX).own(5, 4), 14);
    }

    @Edge(promise = 7, says = "UNKNOWN.")
    static void ownPartsOfWhatThereIsNot(Check check) {
        RubbedColours x = Check.houseOf(TWO);
        int[][] unknown = {{-1, 0}, {2, 0}, {LEAST, 0}, {GREATEST, 0}, {0, -1}, {0, 2}, {0, LEAST}, {0, GREATEST}};
        for (int[] u : unknown) {
            check.due("own(" + u[0] + ", " + u[1] + ")", x.own(u[0], u[1]), Check.UNKNOWN);
        }
        check.due("own(6, 0) of six", Check.houseOf(SIX).own(6, 0), Check.UNKNOWN);
        check.due("own(0, 5) of five", Check.houseOf(SIX).own(0, 5), Check.UNKNOWN);
    }

    // ---- 8: gives

    private static void gift(Check check, String text, int... due) {
        RubbedColours x = Check.houseOf(text);
        for (int c = 0; c < due.length; c++) {
            check.due(text + " gives(0, " + c + ")", x.gives(0, c), due[c]);
        }
    }

    @Edge(promise = 8, says = "What it GIVES in a RUB: K parts: of each COLOUR K times its parts / 60;")
    static void giftsWithoutRests(Check check) {
        gift(check, "c2 30;p60,0;", 30, 0);
        gift(check, "c2 1;p60,0;", 1, 0);
        gift(check, "c2 30;p30,30;", 15, 15);
        gift(check, "c5 30;p12,12,12,12,12;", 6, 6, 6, 6, 6);
        gift(check, "c5 5;p12,12,12,12,12;", 1, 1, 1, 1, 1);
    }

    @Edge(promise = 8, says = "What it GIVES in a RUB: K parts: of each COLOUR K times its parts / 60;")
    static void giftsAreAlwaysKTogether(Check check) {
        String[] coats = {"60,0,0,0,0", "59,1,0,0,0", "1,1,1,1,56", "12,12,12,12,12", "13,13,13,13,8", "20,19,11,7,3"};
        for (int k = 1; k <= 30; k++) {
            for (String coat : coats) {
                RubbedColours x = Check.houseOf("c5 " + k + ";p" + coat + ";");
                int sum = 0;
                for (int c = 0; c < 5; c++) {
                    sum += x.gives(0, c);
                    check.holds("K " + k + ", no more of " + c + " of " + coat + " than there is", x.gives(0, c) <= x.parts(0, c));
                }
                check.due("K " + k + ", gift of " + coat, sum, k);
            }
        }
    }

    @Edge(promise = 8, says = "what is left to K one by one of those COLOURS with the greatest rests (K times its parts, left over by 60;")
    static void whatIsLeftGoesByTheGreatestRests(Check check) {
        // 11 times 13, 17, 30 is 143, 187, 330: 2 rest 23, 3 rest 7, 5 rest 30: one is left
        gift(check, "c3 11;p13,17,30;", 2, 3, 6);
        // 7 times 10, 25, 25 is 70, 175, 175: 1 rest 10, 2 rest 55, 2 rest 55: two are left
        gift(check, "c3 7;p10,25,25;", 1, 3, 3);
        // once 14, 15, 16, 15: the greatest of them alone
        gift(check, "c4 1;p14,15,16,15;", 0, 0, 1, 0);
        // 29 times 59 and 1 is 1711 and 29: 28 rest 31, 0 rest 29
        gift(check, "c2 29;p59,1;", 29, 0);
        // 4 times 13, 13, 13, 13, 8 is 52 four times and 32: four are left, none for the last
        gift(check, "c5 4;p13,13,13,13,8;", 1, 1, 1, 1, 0);
        gift(check, "c5 4;p8,13,13,13,13;", 0, 1, 1, 1, 1);
    }

    @Edge(promise = 8, says = "of like ones the least).")
    static void likeRestsGoToTheLeastColour(Check check) {
        gift(check, "c5 1;p12,12,12,12,12;", 1, 0, 0, 0, 0);
        gift(check, "c5 3;p12,12,12,12,12;", 1, 1, 1, 0, 0);
        gift(check, "c5 4;p12,12,12,12,12;", 1, 1, 1, 1, 0);
        gift(check, "c2 1;p30,30;", 1, 0);
        gift(check, "c2 30;p1,59;", 1, 29);
        gift(check, "c2 30;p59,1;", 30, 0);
        gift(check, "c3 1;p0,30,30;", 0, 1, 0);
    }

    @Edge(promise = 8, says = "What a COAT GIVES of a COLOUR in a RUB now.")
    static void giftsAreOfNow(Check check) {
        RubbedColours x = Check.houseOf(TWO + "g1;");
        check.due("gives(0, 0)", x.gives(0, 0), 30);
        x.glove(1, false);
        x.touch(0, 1);
        check.due("gives(0, 0) behind a touch", x.gives(0, 0), 15);
        check.due("gives(0, 1) behind a touch", x.gives(0, 1), 15);
        x.glove(0, true);
        check.due("gives(0, 1) by its parts, in gloves, too", x.gives(0, 1), 15);
        x.wash(0);
        check.due("gives(0, 0) washed", x.gives(0, 0), 30);
    }

    @Edge(promise = 8, says = "UNKNOWN.")
    static void giftsOfWhatThereIsNot(Check check) {
        RubbedColours x = Check.houseOf(TWO);
        int[][] unknown = {{-1, 0}, {2, 0}, {LEAST, 0}, {GREATEST, 0}, {0, -1}, {0, 2}, {0, LEAST}, {0, GREATEST}};
        for (int[] u : unknown) {
            check.due("gives(" + u[0] + ", " + u[1] + ")", x.gives(u[0], u[1]), Check.UNKNOWN);
        }
        check.due("gives(6, 0) of six", Check.houseOf(SIX).gives(6, 0), Check.UNKNOWN);
        check.due("gives(0, 5) of five", Check.houseOf(SIX).gives(0, 5), Check.UNKNOWN);
    }

    // ---- 9: planned

    @Edge(promise = 9, says = "A TOUCH of THE DAY: 10 times the first COAT and the other.")
    static void theFirstAndTheTenthTouch(Check check) {
        RubbedColours x = Check.houseOf(SIX + TEN);
        check.due("planned(0)", x.planned(0), 1);
        check.due("planned(5): the first is the greater", x.planned(5), 50);
        check.due("planned(9)", x.planned(9), 53);
    }

    @Edge(promise = 9, says = "UNKNOWN.")
    static void touchesThatThereAreNot(Check check) {
        RubbedColours x = Check.houseOf(TWO + "t0 1,1 0;");
        check.due("planned(1)", x.planned(1), 10);
        check.due("planned(2)", x.planned(2), Check.UNKNOWN);
        check.due("planned(-1)", x.planned(-1), Check.UNKNOWN);
        check.due("planned(least)", x.planned(LEAST), Check.UNKNOWN);
        check.due("planned(greatest)", x.planned(GREATEST), Check.UNKNOWN);
        check.due("planned(10) of ten", Check.houseOf(SIX + TEN).planned(10), Check.UNKNOWN);
        check.due("planned(0) of none", Check.houseOf(TWO).planned(0), Check.UNKNOWN);
    }
}
