/** Boundary cases of promises 1 to 4: a new object, the text, the house, the fault. */
public final class EdgesOfTextTest {
    private static final String TWO = "c2 1;p60,0;p0,60;";
    private static final String TEN = "0 1,1 0,0 1,1 0,0 1,1 0,0 1,1 0,0 1,1 0";
    private static final String BUSY = "c2 30;p60,0;p0,60;p30,30;g1;h2;t0 1;";
    private static final int CLAUSE = TWO.length();

    public static void main(String[] args) {
        Edges.run(EdgesOfTextTest.class);
    }

    private static RubbedColours fed(String text) {
        RubbedColours x = new RubbedColours();
        Check.feedAll(x, text);
        return x;
    }

    private static void good(Check check, String text, int coats) {
        RubbedColours x = fed(text);
        check.due("house() of \"" + text + "\"", x.house(), coats);
        check.due("fault() of \"" + text + "\"", x.fault(), Check.NONE);
    }

    private static void bad(Check check, String text, int fault, int at) {
        RubbedColours x = fed(text);
        check.due("house() of \"" + text + "\"", x.house(), -10 - fault);
        check.due("fault() of \"" + text + "\"", x.fault(), at);
        check.due("no house by \"" + text + "\"", x.told(0) + x.told(2), 0);
    }

    private static String filledUp(String text, int letters) {
        return text + " ".repeat(letters - text.length());
    }

    // ---- 1: a new object

    @Edge(promise = 1, says = "No COLOURS.")
    static void aNewObjectHasNothing(Check check) {
        RubbedColours x = new RubbedColours();
        for (int what = 0; what <= 11; what++) {
            check.due("told(" + what + ")", x.told(what), 0);
        }
    }

    @Edge(promise = 1, says = "No COLOURS.")
    static void aNewObjectKnowsNoCoatAndNoColour(Check check) {
        RubbedColours x = new RubbedColours();
        check.due("parts", x.parts(0, 0), Check.UNKNOWN);
        check.due("own", x.own(0, 0), Check.UNKNOWN);
        check.due("gives", x.gives(0, 0), Check.UNKNOWN);
        check.due("planned", x.planned(0), Check.UNKNOWN);
        check.due("touch", x.touch(0, 1), Check.UNKNOWN);
        check.due("glove", x.glove(0, true), Check.UNKNOWN);
        check.due("wash", x.wash(0), Check.UNKNOWN);
        check.due("shows", x.shows(0, 0, 0), Check.UNKNOWN);
        check.due("alike", x.alike(0, 1), Check.UNKNOWN);
        check.due("trail", x.trail(0, 0, 0), Check.UNKNOWN);
        check.due("came", x.came(0, 0, 0, 1, 0, -1), Check.UNKNOWN);
        check.due("met", x.met(0, 0, 0, 0), Check.UNKNOWN);
        check.due("leftOut", x.leftOut(0, 0, 0, 0), Check.UNKNOWN);
        check.due("washes", x.washes(0, 0), Check.UNKNOWN);
        check.due("rest", x.rest(0, 0), Check.UNKNOWN);
        check.due("rain", x.rain(0, 0, 0), Check.UNKNOWN);
        check.due("blend of the empty set", x.blend(0, 0), Check.UNKNOWN);
        check.due("blend", x.blend(1, 0), Check.UNKNOWN);
        check.due("see", x.see(0, 0, 0), Check.UNKNOWN);
        check.due("write", x.write(0, 0, 0), Check.UNKNOWN);
    }

    @Edge(promise = 1, says = "No COLOURS.")
    static void aNewObjectAnswersWhatNeedsNoColour(Check check) {
        RubbedColours x = new RubbedColours();
        check.due("fault", x.fault(), Check.NONE);
        check.due("day", x.day(), Check.NOT);
        check.due("drift", x.drift(1), Check.NOT);
        check.due("undo", x.undo(), Check.NOT);
        check.due("rest(-1, 0)", x.rest(-1, 0), 0);
        check.due("gap: none was left out", x.gap(), 1);
        check.due("look", x.look(), Check.NONE);
        check.due("tear", x.tear(), 0);
        check.due("judge", x.judge(), Check.NONE);
        check.due("seed", x.seed(0), 0);
        check.due("goBack", x.goBack(0), Check.NOT);
        check.due("keep", x.keep(0), 1);
        check.due("goBack, kept", x.goBack(0), 1);
        check.due("house", x.house(), 0);
    }

    @Edge(promise = 1, says = "An object is used for at most 512 calls after it has been made")
    static void the512thCallIsAnsweredYet(Check check) {
        RubbedColours x = fed("c2 30;p60,0;p0,60;t0 1;");
        int calls = "c2 30;p60,0;p0,60;t0 1;".length();
        check.due("house()", x.house(), 2);
        calls++;
        for (int touches = 1; calls < 511; touches++, calls++) {
            check.due("day() " + touches, x.day(), touches);
        }
        check.due("undo(), the 512th call", x.undo(), 19);
    }

    // ---- 2: feed

    @Edge(promise = 2, says = "One letter (a number 0 .. 255) comes behind THE TEXT: how many it has.")
    static void theLeastLetter(Check check) {
        RubbedColours x = new RubbedColours();
        check.due("feed(0)", x.feed(0), 1);
        check.due("told(4)", x.told(4), 1);
    }

    @Edge(promise = 2, says = "One letter (a number 0 .. 255) comes behind THE TEXT: how many it has.")
    static void theGreatestLetter(Check check) {
        RubbedColours x = new RubbedColours();
        check.due("feed(255)", x.feed(255), 1);
        check.due("told(4)", x.told(4), 1);
    }

    @Edge(promise = 2, says = "OUTSIDE, FULL (240).")
    static void aLetterTooSmall(Check check) {
        RubbedColours x = new RubbedColours();
        check.due("feed(-1)", x.feed(-1), Check.OUTSIDE);
        check.due("feed(least)", x.feed(Integer.MIN_VALUE), Check.OUTSIDE);
        check.due("told(4)", x.told(4), 0);
    }

    @Edge(promise = 2, says = "OUTSIDE, FULL (240).")
    static void aLetterTooLarge(Check check) {
        RubbedColours x = new RubbedColours();
        check.due("feed(256)", x.feed(256), Check.OUTSIDE);
        check.due("feed('c' and 256)", x.feed('c' + 256), Check.OUTSIDE);
        check.due("feed(greatest)", x.feed(Integer.MAX_VALUE), Check.OUTSIDE);
        check.due("told(4)", x.told(4), 0);
    }

    @Edge(promise = 2, says = "OUTSIDE, FULL (240).")
    static void aFullTextTakesNoLetter(Check check) {
        RubbedColours x = fed(" ".repeat(239));
        check.due("the 240th", x.feed(32), 240);
        check.due("the 241st", x.feed(32), Check.FULL);
        check.due("the 241st again", x.feed('c'), Check.FULL);
        check.due("told(4)", x.told(4), 240);
    }

    @Edge(promise = 2, says = "OUTSIDE, FULL (240).")
    static void outsideIsAheadOfFull(Check check) {
        RubbedColours x = fed(" ".repeat(240));
        check.due("feed(256), full", x.feed(256), Check.OUTSIDE);
        check.due("feed(-1), full", x.feed(-1), Check.OUTSIDE);
    }

    @Edge(promise = 2, says = "THE HOUSE is told in a text (240 letters at most): clauses:")
    static void aFullTextIsAHouseWithoutTheRefusedLetter(Check check) {
        RubbedColours x = fed(filledUp(TWO, 239) + " x");
        check.due("told(4)", x.told(4), 240);
        check.due("house()", x.house(), 2);
        check.due("fault()", x.fault(), Check.NONE);
    }

    @Edge(promise = 2, says = "THE HOUSE is told in a text (240 letters at most): clauses:")
    static void theLastOf240LettersIsReadToo(Check check) {
        good(check, filledUp(TWO + "g0", 239) + ";", 2);
        bad(check, filledUp(TWO, 239) + "x", 1, 239);
    }

    @Edge(promise = 2, says = "One letter (a number 0 .. 255) comes behind THE TEXT: how many it has.")
    static void behindHouseTheTextBeginsAnew(Check check) {
        RubbedColours x = fed(" ".repeat(240));
        x.house();
        check.due("feed behind house()", x.feed(32), 1);
    }

    // ---- 3: house, its clauses

    @Edge(promise = 3, says = "(COLOURS 0 .. N less 1, N 2 .. 5;")
    static void theFewestColours(Check check) {
        RubbedColours x = Check.houseOf("c2 1;p59,1;");
        check.due("told(0)", x.told(0), 2);
        check.due("parts(0, 1)", x.parts(0, 1), 1);
        check.due("parts(0, 2)", x.parts(0, 2), Check.UNKNOWN);
    }

    @Edge(promise = 3, says = "(COLOURS 0 .. N less 1, N 2 .. 5;")
    static void theMostColours(Check check) {
        RubbedColours x = Check.houseOf("c5 1;p10,11,12,13,14;");
        check.due("told(0)", x.told(0), 5);
        check.due("parts(0, 4)", x.parts(0, 4), 14);
        check.due("parts(0, 5)", x.parts(0, 5), Check.UNKNOWN);
    }

    @Edge(promise = 3, says = "(COLOURS 0 .. N less 1, N 2 .. 5;")
    static void tooFewColours(Check check) {
        bad(check, "c1 1;", 2, 1);
        bad(check, "c0 1;", 2, 1);
    }

    @Edge(promise = 3, says = "(COLOURS 0 .. N less 1, N 2 .. 5;")
    static void tooManyColours(Check check) {
        bad(check, "c6 1;", 2, 1);
        bad(check, "c999 1;", 2, 1);
    }

    @Edge(promise = 3, says = "a RUB is of K parts, 1 .. 30;")
    static void theLeastRub(Check check) {
        RubbedColours x = Check.houseOf("c2 1;p60,0;p0,60;");
        check.due("told(1)", x.told(1), 1);
        check.due("touch(0, 1)", x.touch(0, 1), 1);
        bad(check, "c2 0;", 2, 3);
    }

    @Edge(promise = 3, says = "a RUB is of K parts, 1 .. 30;")
    static void theGreatestRub(Check check) {
        RubbedColours x = Check.houseOf("c2 30;p60,0;p0,60;");
        check.due("told(1)", x.told(1), 30);
        check.due("touch(0, 1)", x.touch(0, 1), 30);
        bad(check, "c2 31;", 2, 3);
    }

    @Edge(promise = 3, says = "first, once)")
    static void anotherWordFirst(Check check) {
        bad(check, "p60,0;c2 1;", 1, 0);
        bad(check, "g0;", 1, 0);
        bad(check, "t0 1;", 1, 0);
        bad(check, "  h0;", 1, 2);
    }

    @Edge(promise = 3, says = "first, once)")
    static void coloursTwice(Check check) {
        bad(check, "c2 1;c2 1;", 3, 5);
        bad(check, TWO + "  c", 3, CLAUSE + 2);
    }

    @Edge(promise = 3, says = "'p' X {',' X} ';' (6 COATS at most:")
    static void sixCoatsAndASeventh(Check check) {
        String six = "c2 1;" + "p60,0;".repeat(6);
        good(check, six, 6);
        bad(check, six + "p60,0;", 3, six.length());
        bad(check, six + " p", 3, six.length() + 1);
    }

    @Edge(promise = 3, says = "'c' N K ';'")
    static void coloursAlone(Check check) {
        RubbedColours x = fed("c2 1;");
        check.due("house()", x.house(), 0);
        check.due("told(0)", x.told(0), 2);
        check.due("told(2)", x.told(2), 0);
        check.due("parts(0, 0)", x.parts(0, 0), Check.UNKNOWN);
        check.due("met(0, 0, 0, 0): the colour is known", x.met(0, 0, 0, 0), 0);
    }

    @Edge(promise = 3, says = "N numbers X, 0 .. 60, parts of each COLOUR, 60 together)")
    static void theLeastAndTheGreatestX(Check check) {
        good(check, "c2 1;p0,60;", 1);
        good(check, "c2 1;p60,0;", 1);
        bad(check, "c2 1;p61,0;", 2, 6);
        bad(check, "c2 1;p0,61;", 2, 8);
        bad(check, "c2 1;p-1,61;", 1, 6);
    }

    @Edge(promise = 3, says = "N numbers X, 0 .. 60, parts of each COLOUR, 60 together)")
    static void asManyXAsColours(Check check) {
        good(check, "c3 1;p20,20,20;", 1);
        good(check, "c4 1;p15,15,15,15;", 1);
        good(check, "c5 1;p12,12,12,12,12;", 1);
        bad(check, "c5 1;p15,15,15,15;", 1, 17);
        bad(check, "c4 1;p15,15,15,15,0;", 1, 17);
    }

    @Edge(promise = 3, says = "'g' A ';' (COAT A told ahead wears GLOVES at first;")
    static void glovesOfTheLatestCoatAndOfOneToldBehind(Check check) {
        RubbedColours x = Check.houseOf("c2 1;p60,0;g0;p60,0;g1;");
        check.due("told(5)", x.told(5), 3);
        bad(check, "c2 1;p60,0;g1;p60,0;", 2, 12);
        bad(check, "c2 1;g0;p60,0;", 2, 6);
    }

    @Edge(promise = 3, says = "'g' A ';' (COAT A told ahead wears GLOVES at first;")
    static void allSixInGloves(Check check) {
        RubbedColours x = Check.houseOf("c2 1;" + "p60,0;".repeat(6) + "g5;g4;g3;g2;g1;g0;");
        check.due("told(5)", x.told(5), 63);
        bad(check, "c2 1;" + "p60,0;".repeat(6) + "g6;", 2, 42);
    }

    @Edge(promise = 3, says = "wears GLOVES at first; each once)")
    static void glovesTwice(Check check) {
        bad(check, TWO + "g1;g0;g1;", 4, CLAUSE + 7);
    }

    @Edge(promise = 3, says = "'t' A B {',' A B} ';' (THE DAY: 1 to 10 TOUCHES,")
    static void oneTouchAndNone(Check check) {
        RubbedColours x = Check.houseOf(TWO + "t1 0;");
        check.due("told(3)", x.told(3), 1);
        bad(check, TWO + "t;", 1, CLAUSE + 1);
    }

    @Edge(promise = 3, says = "'t' A B {',' A B} ';' (THE DAY: 1 to 10 TOUCHES,")
    static void tenTouchesAndAnEleventh(Check check) {
        RubbedColours x = Check.houseOf(TWO + "t" + TEN + ";");
        check.due("told(3)", x.told(3), 10);
        bad(check, TWO + "t" + TEN + ",0 1;", 1, CLAUSE + 1 + TEN.length());
    }

    @Edge(promise = 3, says = "each of two unlike COATS told ahead, one behind the other; once)")
    static void coatsOfTheDayAreUnlike(Check check) {
        bad(check, TWO + "t1 1;", 4, CLAUSE + 3);
        bad(check, TWO + "t0 1,0 0;", 4, CLAUSE + 7);
    }

    @Edge(promise = 3, says = "each of two unlike COATS told ahead, one behind the other; once)")
    static void coatsOfTheDayAreToldAhead(Check check) {
        bad(check, TWO + "t0 2;p60,0;", 2, CLAUSE + 3);
        bad(check, TWO + "t2 0;p60,0;", 2, CLAUSE + 1);
        good(check, TWO + "p60,0;t0 2;", 3);
    }

    @Edge(promise = 3, says = "each of two unlike COATS told ahead, one behind the other; once)")
    static void theSameTouchMayComeAgain(Check check) {
        RubbedColours x = Check.houseOf(TWO + "t0 1,0 1,1 0;");
        check.due("told(3)", x.told(3), 3);
    }

    @Edge(promise = 3, says = "each of two unlike COATS told ahead, one behind the other; once)")
    static void theDayTwice(Check check) {
        bad(check, TWO + "t0 1;t0 1;", 3, CLAUSE + 5);
    }

    @Edge(promise = 3, says = "'h' A ';' (COAT A told ahead is a DOG:")
    static void aDogIsToldAhead(Check check) {
        bad(check, TWO + "h2;p60,0;", 2, CLAUSE + 1);
        RubbedColours x = Check.houseOf("c2 1;" + "p60,0;".repeat(6) + "h0;h1;h2;h3;h4;h5;");
        check.due("six dogs", x.told(6), 63);
    }

    @Edge(promise = 3, says = "it wears no GLOVES, is never washed; each once).")
    static void aDogTakesNoGlovesAndNoWater(Check check) {
        RubbedColours x = Check.houseOf(TWO + "h1;");
        x.touch(0, 1);
        check.due("glove(1, true)", x.glove(1, true), Check.NOT);
        check.due("wash(1)", x.wash(1), Check.NOT);
        check.due("told(5)", x.told(5), 0);
        check.due("parts(1, 0)", x.parts(1, 0), 1);
        bad(check, TWO + "h1;h0;h1;", 4, CLAUSE + 7);
    }

    // ---- 3: house, its letters

    @Edge(promise = 3, says = "NUMBERS have one to three figures;")
    static void figuresOfANumber(Check check) {
        good(check, "c2 1;p60,0;", 1);
        good(check, "c02 01;p60,00;", 1);
        good(check, "c002 001;p060,000;", 1);
        bad(check, "c0002 1;", 2, 1);
        bad(check, "c2 1;p0060,0;", 2, 6);
        bad(check, "c;", 1, 1);
    }

    @Edge(promise = 3, says = "NUMBERS have one to three figures;")
    static void aNumberTooLongForTheMachine(Check check) {
        bad(check, "c2 4294967297;", 2, 3);
        bad(check, "c2 18446744073709551617;", 2, 3);
        bad(check, "c2 " + "0".repeat(230) + "1;", 2, 3);
    }

    @Edge(promise = 3, says = "a word is one letter;")
    static void wordsOfTwoLetters(Check check) {
        bad(check, "cc2 1;", 1, 1);
        bad(check, TWO + "gg0;", 1, CLAUSE + 1);
        bad(check, "C2 1;", 1, 0);
    }

    @Edge(promise = 3, says = "blanks (32) may stand anywhere but within NUMBERS;")
    static void blanksAnywhere(Check check) {
        good(check, "   c   2   1   ;   p   60   ,   0   ;   p   0   ,   60   ;   g   0   ;   h   1   ;   t   0   1   ,   1   0   ;   ", 2);
    }

    @Edge(promise = 3, says = "blanks (32) may stand anywhere but within NUMBERS;")
    static void blanksWithinANumber(Check check) {
        bad(check, "c2 1;p6 0,0;", 1, 8);
        bad(check, "c2 3 0;", 1, 5);
    }

    @Edge(promise = 3, says = "blanks (32) may stand anywhere but within NUMBERS;")
    static void otherLettersThanBlanks(Check check) {
        for (char letter : new char[] {0, 9, 10, 11, 12, 13, 31, 33, 127, 160, 255}) {
            bad(check, "c2 1;" + letter + "p60,0;", 1, 5);
            bad(check, letter + "c2 1;", 1, 0);
            bad(check, "c2" + letter + "1;", 1, 2);
        }
    }

    @Edge(promise = 3, says = "two NUMBERS side by side need one.")
    static void twoNumbersWithoutABlank(Check check) {
        bad(check, "c21;", 2, 1);
        bad(check, TWO + "t01;", 1, CLAUSE + 3);
        bad(check, TWO + "t10;", 2, CLAUSE + 1);
    }

    // ---- 3: house, its faults

    @Edge(promise = 3, says = "FAULTS, at the first letter that has one (the end at the text's length), of these the least:")
    static void theFirstOfSeveralFaults(Check check) {
        bad(check, "c2 1;p61,0,0;c2 1;", 2, 6);
        bad(check, "c2 1;p30,29;p61,0;", 4, 9);
        bad(check, "c2 1;p60,0x;g9;", 1, 10);
        bad(check, TWO + "g5;c", 2, CLAUSE + 1);
    }

    @Edge(promise = 3, says = "FAULTS, at the first letter that has one (the end at the text's length), of these the least:")
    static void theEndIsAtTheLength(Check check) {
        bad(check, "c", 1, 1);
        bad(check, "c2", 1, 2);
        bad(check, "c2 1", 1, 4);
        bad(check, "c2 1   ", 1, 7);
        bad(check, "c2 1;p", 1, 6);
        bad(check, "c2 1;p60", 1, 8);
        bad(check, "c2 1;p60,", 1, 9);
        bad(check, "c2 1;p60,0", 1, 10);
        bad(check, TWO + "g", 1, CLAUSE + 1);
        bad(check, TWO + "h1", 1, CLAUSE + 2);
        bad(check, TWO + "t0", 1, CLAUSE + 2);
        bad(check, TWO + "t0 1,", 1, CLAUSE + 5);
        bad(check, filledUp("c2 1", 240), 1, 240);
        bad(check, filledUp(TWO + "g", 239) + "1", 1, 240);
    }

    @Edge(promise = 3, says = "FAULTS, at the first letter that has one (the end at the text's length), of these the least:")
    static void theLeastOfSeveralAtOneLetter(Check check) {
        bad(check, "c2 1;p0,61;", 2, 8);
        bad(check, "c2 1;p60,0000;", 2, 9);
        bad(check, TWO + "g0;g0000;", 2, CLAUSE + 4);
        bad(check, TWO + "t0 0000;", 2, CLAUSE + 3);
        bad(check, "t", 1, 0);
    }

    @Edge(promise = 3, says = "1 it cannot stand there (a letter that is no word, another word first than 'c';")
    static void lettersThatAreNoWords(Check check) {
        for (char letter : new char[] {'x', 'b', 'd', 'P', 'G', 'T', 'H', ';', ',', '0', '9', '-', 0, 255}) {
            bad(check, TWO + letter, 1, CLAUSE);
        }
        for (char letter : new char[] {'x', 'p', 'g', 't', 'h', ';', ',', '2'}) {
            bad(check, letter + "c2 1;", 1, 0);
        }
    }

    @Edge(promise = 3, says = "1 it cannot stand there (a letter that is no word, another word first than 'c';")
    static void signsInTheWrongPlace(Check check) {
        bad(check, "c;2 1;", 1, 1);
        bad(check, "c2,1;", 1, 2);
        bad(check, "c2 1,", 1, 4);
        bad(check, "c2 1 1;", 1, 5);
        bad(check, "c2 1;;", 1, 5);
        bad(check, "c2 1p60,0;", 1, 4);
        bad(check, TWO + "g0,1;", 1, CLAUSE + 2);
        bad(check, TWO + "h0 1;", 1, CLAUSE + 3);
        bad(check, TWO + "t0,1;", 1, CLAUSE + 2);
        bad(check, TWO + "t0 1;,1 0;", 1, CLAUSE + 5);
        bad(check, TWO + "t0 1,;", 1, CLAUSE + 5);
        bad(check, TWO + "t0 1 1;", 1, CLAUSE + 5);
    }

    @Edge(promise = 3, says = "an 11th TOUCH: at its ',';")
    static void anEleventhTouchIsAFaultAtItsComma(Check check) {
        bad(check, TWO + "t" + TEN + "  ,  0 1;", 1, CLAUSE + 1 + TEN.length() + 2);
        bad(check, TWO + "t" + TEN + ",", 1, CLAUSE + 1 + TEN.length());
        bad(check, TWO + "t" + TEN + ",9 9;", 1, CLAUSE + 1 + TEN.length());
    }

    @Edge(promise = 3, says = "too few X: at what is there in place of ',';")
    static void tooFewX(Check check) {
        bad(check, "c2 1;p60;", 1, 8);
        bad(check, "c2 1;p60  ;", 1, 10);
        bad(check, "c3 1;p60,0p;", 1, 10);
        bad(check, "c3 1;p30 30 0;", 1, 9);
        bad(check, "c2 1;p;", 1, 6);
    }

    @Edge(promise = 3, says = "too many: at the ',').")
    static void tooManyX(Check check) {
        bad(check, "c2 1;p60,0,0;", 1, 10);
        bad(check, "c2 1;p60,0  , 99;", 1, 12);
        bad(check, "c5 1;p60,0,0,0,0,", 1, 16);
    }

    @Edge(promise = 3, says = "2 a NUMBER of four figures or more, or out of its bounds; a COAT that was not told yet (at its first).")
    static void numbersAreFaultsAtTheirFirstFigure(Check check) {
        bad(check, "c2   0030;", 2, 5);
        bad(check, "c2 100;", 2, 3);
        bad(check, "c2 1;p 061,0;", 2, 7);
        bad(check, TWO + "g 002;", 2, CLAUSE + 2);
        bad(check, TWO + "h0001;", 2, CLAUSE + 1);
        bad(check, TWO + "t0  12;", 2, CLAUSE + 4);
    }

    @Edge(promise = 3, says = "3 'c', 't' again, a seventh 'p' (at it).")
    static void wordsAgainAreFaultsAtTheWord(Check check) {
        bad(check, "c2 1; c", 3, 6);
        bad(check, TWO + "t0 1; t", 3, CLAUSE + 6);
        bad(check, "c2 1;" + "p60,0;".repeat(6) + " px", 3, 42);
    }

    @Edge(promise = 3, says = "4 X that are not 60 together (at the last X);")
    static void partsTooFewOrTooManyTogether(Check check) {
        bad(check, "c2 1;p30,29;", 4, 9);
        bad(check, "c2 1;p30,31;", 4, 9);
        bad(check, "c2 1;p0,0;", 4, 8);
        bad(check, "c2 1;p60,060;", 4, 9);
        bad(check, "c5 1;p60,60,60,60,60;", 4, 18);
        bad(check, "c2 1;p30,20,10;", 4, 9);
    }

    @Edge(promise = 3, says = "'g', 'h' of a COAT again, 'g' of a DOG, 'h' of one in GLOVES (at the A);")
    static void glovesAndDogsOfOneCoat(Check check) {
        bad(check, TWO + "g0;g 0;", 4, CLAUSE + 5);
        bad(check, TWO + "h0;h 00;", 4, CLAUSE + 5);
        bad(check, TWO + "h1;g1;", 4, CLAUSE + 4);
        bad(check, TWO + "g1;h1;", 4, CLAUSE + 4);
        good(check, TWO + "g1;h0;", 2);
    }

    @Edge(promise = 3, says = "B like A (at the B).")
    static void bLikeA(Check check) {
        bad(check, TWO + "t0  00;", 4, CLAUSE + 4);
        bad(check, TWO + "t0 1,1 001", 4, CLAUSE + 7);
    }

    @Edge(promise = 3, says = "An empty text: no COLOURS.")
    static void anEmptyText(Check check) {
        RubbedColours x = Check.houseOf(BUSY);
        check.due("house() of no letter", x.house(), 0);
        check.due("fault()", x.fault(), Check.NONE);
        for (int what = 0; what <= 11; what++) {
            check.due("told(" + what + ")", x.told(what), 0);
        }
        check.due("parts(0, 0)", x.parts(0, 0), Check.UNKNOWN);
        check.due("day()", x.day(), Check.NOT);
        check.due("rest(-1, 0)", x.rest(-1, 0), 0);
        check.due("gap()", x.gap(), 1);
    }

    @Edge(promise = 3, says = "An empty text: no COLOURS.")
    static void aTextOfBlanksAlone(Check check) {
        good(check, " ", 0);
        good(check, " ".repeat(240), 0);
    }

    // ---- 3: house, what it changes

    @Edge(promise = 3, says = "THE TEXT (it is empty then, with a FAULT, too) becomes THE HOUSE")
    static void theTextIsEmptyThen(Check check) {
        RubbedColours x = fed(TWO);
        x.house();
        check.due("told(4)", x.told(4), 0);
        check.due("house() again, of no letter", x.house(), 0);
    }

    @Edge(promise = 3, says = "THE TEXT (it is empty then, with a FAULT, too) becomes THE HOUSE")
    static void theTextIsEmptyWithAFault(Check check) {
        RubbedColours x = fed("c9");
        check.due("house()", x.house(), -12);
        check.due("told(4)", x.told(4), 0);
        Check.feedAll(x, TWO);
        check.due("house() of the next text", x.house(), 2);
    }

    @Edge(promise = 3, says = "(SOAP, TOUCHES 0;")
    static void soapAndTouchesAreNone(Check check) {
        RubbedColours x = Check.houseOf(BUSY);
        x.wash(0);
        x.touch(0, 2);
        Check.feedAll(x, BUSY);
        x.house();
        check.due("told(7)", x.told(7), 0);
        check.due("told(8)", x.told(8), 0);
    }

    @Edge(promise = 3, says = "nothing SEEN, no BOOK;")
    static void nothingSeenAndNoBook(Check check) {
        RubbedColours x = Check.houseOf(BUSY);
        x.see(0, 0, 1);
        x.write(0, 0, 1);
        Check.feedAll(x, BUSY);
        x.house();
        check.due("told(9)", x.told(9), 0);
        check.due("told(10)", x.told(10), 0);
        check.due("judge()", x.judge(), Check.NONE);
        check.due("gap()", x.gap(), 3);
        check.due("tear()", x.tear(), 0);
    }

    @Edge(promise = 3, says = "IMAGES, what could be undone are gone;")
    static void imagesAreGone(Check check) {
        RubbedColours x = Check.houseOf(BUSY);
        x.keep(0);
        x.keep(1);
        Check.feedAll(x, BUSY);
        x.house();
        check.due("goBack(0)", x.goBack(0), Check.NOT);
        check.due("goBack(1)", x.goBack(1), Check.NOT);
    }

    @Edge(promise = 3, says = "IMAGES, what could be undone are gone;")
    static void whatCouldBeUndoneIsGone(Check check) {
        RubbedColours x = Check.houseOf(BUSY);
        for (int n = 0; n < 21; n++) {
            x.wash(0);
        }
        Check.feedAll(x, BUSY);
        x.house();
        check.due("told(11)", x.told(11), 0);
        check.due("undo()", x.undo(), Check.NOT);
    }

    @Edge(promise = 3, says = "THE SEED stays):")
    static void theSeedStays(Check check) {
        RubbedColours x = Check.houseOf(BUSY);
        x.seed(Integer.MAX_VALUE);
        Check.feedAll(x, BUSY);
        x.house();
        check.due("seed(0)", x.seed(0), Integer.MAX_VALUE);
        x.seed(7);
        x.house();
        check.due("seed(0) behind an empty text", x.seed(0), 7);
    }

    @Edge(promise = 3, says = "how many COATS;")
    static void howManyCoats(Check check) {
        for (int coats = 0; coats <= 6; coats++) {
            good(check, "c2 1;" + "p60,0;".repeat(coats), coats);
        }
    }

    @Edge(promise = 3, says = "-10 less the number of its FAULT (all else is as it was).")
    static void theNumberOfEachFault(Check check) {
        bad(check, "x", 1, 0);
        bad(check, "c6", 2, 1);
        bad(check, "c2 1;c", 3, 5);
        bad(check, "c2 1;p0,0", 4, 8);
    }

    @Edge(promise = 3, says = "-10 less the number of its FAULT (all else is as it was).")
    static void aFaultLeavesAllElse(Check check) {
        String[] faulty = {"x", "c3 5;p1,1,58;p60,0,0;h0;g1;t0 1;x", "c3 5;p1,1,58;p61", "c5 30;p12,12,12,12,12;c", "c2 1;p60,1;"};
        for (String text : faulty) {
            RubbedColours x = Twins.inFullSwing();
            RubbedColours twin = Twins.inFullSwing();
            Check.feedAll(x, text);
            check.holds("house() of \"" + text + "\" has a fault", x.house() < -10);
            Twins.compareAllButFault(check, x, twin);
        }
    }

    @Edge(promise = 3, says = "THE TEXT (it is empty then, with a FAULT, too) becomes THE HOUSE")
    static void nothingOfTheOldTextIsRead(Check check) {
        RubbedColours x = fed("9".repeat(240));
        check.due("house() of figures", x.house(), -11);
        Check.feedAll(x, "c2 1");
        check.due("house() of a shorter text", x.house(), -11);
        check.due("fault()", x.fault(), 4);
        Check.feedAll(x, "c2 1;");
        check.due("house() of a text without fault", x.house(), 0);
    }

    @Edge(promise = 3, says = "THE TEXT (it is empty then, with a FAULT, too) becomes THE HOUSE")
    static void nothingOfTheOldHouseStays(Check check) {
        RubbedColours x = Check.houseOf("c5 30;p20,20,20,0,0;p20,20,0,20,0;" + "p12,12,12,12,12;".repeat(4) + "g0;h1;t1 5,2 3;");
        x.touch(2, 3);
        Check.feedAll(x, "c2 7;p60,0;p60,0;");
        check.due("house()", x.house(), 2);
        int[] due = {2, 7, 2, 0, 0, 0, 0, 0, 0, 0, 0, 0};
        for (int what = 0; what < due.length; what++) {
            check.due("told(" + what + ")", x.told(what), due[what]);
        }
        check.due("parts(0, 0)", x.parts(0, 0), 60);
        check.due("parts(0, 2)", x.parts(0, 2), Check.UNKNOWN);
        check.due("parts(2, 0)", x.parts(2, 0), Check.UNKNOWN);
        check.due("gives(1, 0)", x.gives(1, 0), 7);
        check.due("planned(0)", x.planned(0), Check.UNKNOWN);
        check.due("alike(0, 1)", x.alike(0, 1), 0);
        check.due("touch(0, 1)", x.touch(0, 1), 0);
    }

    @Edge(promise = 3, says = "'g' A ';' (COAT A told ahead wears GLOVES at first;")
    static void glovesAreAtFirstAlone(Check check) {
        RubbedColours x = Check.houseOf(TWO + "g0;");
        check.due("glove(0, false)", x.glove(0, false), 1);
        check.due("touch(0, 1)", x.touch(0, 1), 1);
        Check.feedAll(x, TWO + "g0;");
        x.house();
        check.due("told(5) of the next house", x.told(5), 1);
    }

    // ---- 4: fault

    @Edge(promise = 4, says = "The letter of the FAULT of the latest house(); NONE.")
    static void noFaultAheadOfTheFirstHouse(Check check) {
        RubbedColours x = fed("x");
        check.due("fault()", x.fault(), Check.NONE);
    }

    @Edge(promise = 4, says = "The letter of the FAULT of the latest house(); NONE.")
    static void theFirstLetterAndTheLastEnd(Check check) {
        bad(check, "x", 1, 0);
        bad(check, filledUp("c2 1;p60,0", 240), 1, 240);
    }

    @Edge(promise = 4, says = "The letter of the FAULT of the latest house(); NONE.")
    static void aFaultIsToldTillTheNextHouse(Check check) {
        RubbedColours x = fed("c2 x");
        x.house();
        check.due("fault()", x.fault(), 3);
        Check.feedAll(x, TWO);
        check.due("fault() behind letters", x.fault(), 3);
        x.house();
        check.due("fault() behind a house without one", x.fault(), Check.NONE);
        Check.feedAll(x, "c9");
        x.house();
        check.due("fault() of another", x.fault(), 1);
        x.house();
        check.due("fault() of an empty text", x.fault(), Check.NONE);
    }
}
