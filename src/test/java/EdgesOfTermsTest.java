import java.util.function.ToIntFunction;

/** Boundary cases that the document's terms tell for all promises: refusals, their order, and that they change nothing. */
public final class EdgesOfTermsTest {
    private static final String HOUSE = "c3 30;p60,0,0;p0,60,0;p1,0,59;h2;t0 1,1 2;";
    private static final String REFUSED = "What is refused changes nothing.";
    private static final String ORDER = "REFUSALS, of several the first in this order:";
    private static final String UNKNOWNS = "UNKNOWN (a COAT, COLOUR, TOUCH of THE DAY, IMAGE that there is not; one twice; bits of such),";
    private static final int LEAST = Integer.MIN_VALUE;
    private static final int GREATEST = Integer.MAX_VALUE;

    public static void main(String[] args) {
        Edges.run(EdgesOfTermsTest.class);
    }

    // ---- numbers

    @Edge(promise = 25, says = "All numbers are whole; / cuts towards 0.")
    static void quotientsAreCut(Check check) {
        RubbedColours x = Check.houseOf(HOUSE);
        check.due("blend of 60, 0 and 1", x.blend(7, 0), 20);
        check.due("blend of 0 and 1", x.blend(6, 0), 0);
        check.due("blend of 0 and 59", x.blend(6, 2), 29);
    }

    @Edge(promise = 5, says = "What has a number has it from 0 on, as it comes.")
    static void numbersAreFrom0On(Check check) {
        RubbedColours x = Check.houseOf(HOUSE);
        check.due("the first coat, the first colour", x.parts(0, 0), 60);
        check.due("the third coat, the third colour", x.parts(2, 2), 59);
        check.due("the first touch of the day", x.planned(0), 1);
        check.due("the second touch of the day", x.planned(1), 12);
        x.write(0, 0, 1);
        check.due("the first entry", x.judge(), 0);
        check.due("the first letter", firstFault("x"), 0);
    }

    private static int firstFault(String text) {
        RubbedColours x = new RubbedColours();
        Check.feedAll(x, text);
        x.house();
        return x.fault();
    }

    @Edge(promise = 5, says = "A SET is a whole number, bit k for k.")
    static void bitKForK(Check check) {
        RubbedColours x = Check.houseOf(HOUSE);
        check.due("the dog is coat 2", x.told(6), 4);
        x.glove(1, true);
        check.due("gloves of coat 1", x.told(5), 2);
        check.due("blend of coat 2 alone", x.blend(4, 2), 59);
    }

    @Edge(promise = 1, says = "NONE is -1.")
    static void noneIsLessThanNought(Check check) {
        check.due("NONE", RubbedColours.NONE, -1);
        check.due("alike, never", Check.houseOf(HOUSE).alike(0, 2), -1);
    }

    @Edge(promise = 1, says = "They are far below all that is counted: -1000000001 and on.")
    static void refusalsAreFarBelow(Check check) {
        check.due("UNKNOWN", RubbedColours.UNKNOWN, -1000000001);
        check.due("OUTSIDE", RubbedColours.OUTSIDE, -1000000002);
        check.due("NOT", RubbedColours.NOT, -1000000003);
        check.due("FULL", RubbedColours.FULL, -1000000004);
    }

    @Edge(promise = 24, says = "BILLION is 1000000000.")
    static void aBillion(Check check) {
        check.due("rain on nobody", Check.houseOf(HOUSE).rain(0, 60, 0), 1000000000);
    }

    // ---- the order of refusals

    @Edge(promise = 16, says = UNKNOWNS)
    static void unknownIsAheadOfOutside(Check check) {
        RubbedColours x = Check.houseOf(HOUSE);
        check.due("shows", x.shows(3, 0, 3), Check.UNKNOWN);
        check.due("trail", x.trail(3, 0, 2), Check.UNKNOWN);
        check.due("came", x.came(0, 0, 61, 3, 61, 0), Check.UNKNOWN);
        check.due("came, one colour twice", x.came(0, 2, 61, 2, 61, 0), Check.UNKNOWN);
        check.due("met", x.met(3, 61, 61, 2), Check.UNKNOWN);
        check.due("leftOut", x.leftOut(0, 3, 61, 2), Check.UNKNOWN);
        check.due("washes", x.washes(3, 61), Check.UNKNOWN);
        check.due("rain", x.rain(3, 61, 101), Check.UNKNOWN);
        check.due("see", x.see(3, 0, 61), Check.UNKNOWN);
        check.due("write", x.write(0, 3, 61), Check.UNKNOWN);
    }

    @Edge(promise = 34, says = ORDER)
    static void unknownIsAheadOfNot(Check check) {
        RubbedColours x = Check.houseOf(HOUSE);
        check.due("goBack of an image that there is not, nothing kept", x.goBack(2), Check.UNKNOWN);
        check.due("glove of a coat that there is not", x.glove(3, true), Check.UNKNOWN);
        check.due("wash of a coat that there is not", x.wash(3), Check.UNKNOWN);
    }

    @Edge(promise = 14, says = "OUTSIDE (another number out of its bounds), NOT (not now, as told), FULL.")
    static void outsideIsAheadOfNot(Check check) {
        RubbedColours x = new RubbedColours();
        check.due("drift(0) without coats", x.drift(0), Check.OUTSIDE);
        check.due("drift(100) without coats", x.drift(100), Check.OUTSIDE);
        check.due("drift(1) without coats", x.drift(1), Check.NOT);
    }

    @Edge(promise = 26, says = "OUTSIDE (another number out of its bounds), NOT (not now, as told), FULL.")
    static void fullIsBehindAllOthers(Check check) {
        RubbedColours x = Check.houseOf(HOUSE);
        for (int n = 0; n < 15; n++) {
            x.see(0, 0, 1);
            x.write(0, 0, 1);
        }
        Check.feedAll(x, " ".repeat(240));
        check.due("feed, outside", x.feed(256), Check.OUTSIDE);
        check.due("feed", x.feed(255), Check.FULL);
        check.due("see, unknown", x.see(0, 3, 1), Check.UNKNOWN);
        check.due("see, outside", x.see(0, 0, 61), Check.OUTSIDE);
        check.due("see", x.see(0, 0, 1), Check.FULL);
        check.due("write, unknown", x.write(0, 3, 1), Check.UNKNOWN);
        check.due("write, outside", x.write(0, 0, 61), Check.OUTSIDE);
        check.due("write", x.write(0, 0, 1), Check.FULL);
    }

    @Edge(promise = 17, says = UNKNOWNS)
    static void oneTwiceIsUnknown(Check check) {
        RubbedColours x = Check.houseOf(HOUSE);
        check.due("touch(1, 1)", x.touch(1, 1), Check.UNKNOWN);
        check.due("alike(1, 1)", x.alike(1, 1), Check.UNKNOWN);
        check.due("came of colour 1 twice", x.came(0, 1, 0, 1, 0, -1), Check.UNKNOWN);
    }

    @Edge(promise = 25, says = UNKNOWNS)
    static void bitsOfSuchAreUnknown(Check check) {
        RubbedColours x = Check.houseOf(HOUSE);
        check.due("bit 3 alone", x.blend(8, 0), Check.UNKNOWN);
        check.due("bit 3 among others", x.blend(15, 0), Check.UNKNOWN);
        check.due("bit 31 alone", x.blend(LEAST, 0), Check.UNKNOWN);
    }

    // ---- what is refused changes nothing

    /** Each refusal is asked of one of two objects with the same calls behind them; then both must be alike. */
    @SafeVarargs
    private static void changesNothing(Check check, ToIntFunction<RubbedColours>... refusals) {
        RubbedColours x = Twins.inFullSwing();
        RubbedColours twin = Twins.inFullSwing();
        Check.feedAll(x, "c2 1");
        Check.feedAll(twin, "c2 1");
        int n = 0;
        for (ToIntFunction<RubbedColours> refusal : refusals) {
            check.holds("refusal " + n + " is one", refusal.applyAsInt(x) <= Check.UNKNOWN);
            n++;
        }
        Twins.compare(check, x, twin);
    }

    @Edge(promise = 2, says = REFUSED)
    static void refusedLetters(Check check) {
        changesNothing(check, x -> x.feed(-1), x -> x.feed(256), x -> x.feed(LEAST), x -> x.feed(GREATEST));
    }

    @Edge(promise = 5, says = REFUSED)
    static void refusedQuestionsOfTheHouse(Check check) {
        changesNothing(check, x -> x.told(-1), x -> x.told(12), x -> x.parts(4, 0), x -> x.parts(0, 3), x -> x.own(-1, 0),
            x -> x.own(0, -1), x -> x.gives(4, 0), x -> x.gives(0, 3), x -> x.planned(4), x -> x.planned(-1));
    }

    @Edge(promise = 10, says = REFUSED)
    static void refusedTouches(Check check) {
        changesNothing(check, x -> x.touch(0, 4), x -> x.touch(4, 0), x -> x.touch(-1, 0), x -> x.touch(1, 1), x -> x.touch(LEAST, GREATEST));
    }

    @Edge(promise = 11, says = REFUSED)
    static void refusedGloves(Check check) {
        changesNothing(check, x -> x.glove(4, true), x -> x.glove(-1, false), x -> x.glove(32, true), x -> x.glove(3, true), x -> x.glove(3, false));
    }

    @Edge(promise = 12, says = REFUSED)
    static void refusedWashings(Check check) {
        changesNothing(check, x -> x.wash(4), x -> x.wash(-1), x -> x.wash(3));
    }

    @Edge(promise = 13, says = REFUSED)
    static void refusedDays(Check check) {
        RubbedColours x = Check.houseOf("c2 30;p60,0;p0,60;");
        x.touch(0, 1);
        x.wash(0);
        check.due("day()", x.day(), Check.NOT);
        check.due("parts(0, 0)", x.parts(0, 0), 60);
        check.due("parts(1, 0)", x.parts(1, 0), 30);
        check.due("touches", x.told(8), 1);
        check.due("undo()", x.undo(), 1);
        check.due("soap", x.told(7), 0);
    }

    @Edge(promise = 14, says = REFUSED)
    static void refusedDrifts(Check check) {
        changesNothing(check, x -> x.drift(0), x -> x.drift(100), x -> x.drift(-1), x -> x.drift(LEAST), x -> x.drift(GREATEST));
        RubbedColours one = Check.houseOf("c2 30;p60,0;");
        one.seed(6);
        one.wash(0);
        check.due("drift(1) of one coat", one.drift(1), Check.NOT);
        check.due("the seed", one.seed(0), 6);
        check.due("undo()", one.undo(), 0);
    }

    @Edge(promise = 15, says = REFUSED)
    static void refusedUndoings(Check check) {
        RubbedColours x = Twins.inFullSwing();
        RubbedColours twin = Twins.inFullSwing();
        x.keep(1);
        twin.keep(1);
        check.due("undo()", x.undo(), Check.NOT);
        check.due("undo()", x.undo(), Check.NOT);
        Twins.compare(check, x, twin);
    }

    @Edge(promise = 16, says = REFUSED)
    static void refusedTrials(Check check) {
        changesNothing(check, x -> x.shows(4, 0, 0), x -> x.shows(0, 0, 5), x -> x.alike(0, 0), x -> x.alike(0, 4), x -> x.trail(3, 0, 0),
            x -> x.trail(0, 0, 2), x -> x.came(0, 0, 0, 0, 0, 0), x -> x.came(0, 0, 61, 1, 0, 0), x -> x.met(3, 0, 0, 0),
            x -> x.met(0, 0, 61, 0), x -> x.leftOut(4, 0, 0, 0), x -> x.leftOut(0, 0, 0, 2), x -> x.washes(3, 0), x -> x.washes(0, 61),
            x -> x.rest(4, 0), x -> x.rest(0, 3), x -> x.rain(3, 0, 0), x -> x.rain(0, 0, 101), x -> x.blend(16, 0), x -> x.blend(0, 3));
    }

    @Edge(promise = 26, says = REFUSED)
    static void refusedSights(Check check) {
        changesNothing(check, x -> x.see(4, 0, 0), x -> x.see(0, 3, 0), x -> x.see(0, 0, -1), x -> x.see(0, 0, 61));
        RubbedColours x = fullOfNotes();
        RubbedColours twin = fullOfNotes();
        check.due("see, full", x.see(1, 1, 1), Check.FULL);
        Twins.compare(check, x, twin);
    }

    @Edge(promise = 29, says = REFUSED)
    static void refusedEntries(Check check) {
        changesNothing(check, x -> x.write(4, 0, 0), x -> x.write(0, 3, 0), x -> x.write(0, 0, -1), x -> x.write(0, 0, 61));
        RubbedColours x = fullOfNotes();
        RubbedColours twin = fullOfNotes();
        check.due("write, full", x.write(1, 1, 1), Check.FULL);
        Twins.compare(check, x, twin);
    }

    private static RubbedColours fullOfNotes() {
        RubbedColours x = Twins.inFullSwing();
        for (int n = 0; n < 15; n++) {
            x.see(0, 0, 30);
            x.write(0, 0, 30);
        }
        return x;
    }

    @Edge(promise = 32, says = REFUSED)
    static void refusedSeeds(Check check) {
        changesNothing(check, x -> x.seed(-1), x -> x.seed(LEAST));
    }

    @Edge(promise = 33, says = REFUSED)
    static void refusedKeeping(Check check) {
        changesNothing(check, x -> x.keep(-1), x -> x.keep(2), x -> x.keep(LEAST), x -> x.keep(GREATEST));
    }

    @Edge(promise = 34, says = REFUSED)
    static void refusedGoingBack(Check check) {
        changesNothing(check, x -> x.goBack(-1), x -> x.goBack(2), x -> x.goBack(1), x -> x.goBack(GREATEST));
    }

    @Edge(promise = 2, says = REFUSED)
    static void aLetterRefusedByAFullText(Check check) {
        RubbedColours x = Twins.inFullSwing();
        RubbedColours twin = Twins.inFullSwing();
        // 240 letters leave too few of the 512 calls for all questions, so the text alone is looked at
        Check.feedAll(x, "c2 1;" + " ".repeat(235));
        Check.feedAll(twin, "c2 1;" + " ".repeat(235));
        check.due("feed, full", x.feed('x'), Check.FULL);
        check.due("told(4)", x.told(4), twin.told(4));
        check.due("parts(0, 0)", x.parts(0, 0), twin.parts(0, 0));
        check.due("undo()", x.undo(), twin.undo());
        check.due("house()", x.house(), twin.house());
        check.due("fault()", x.fault(), twin.fault());
    }
}
