/** Counts the answers of one test and tells those that are not due. */
final class Check {
    static final int NONE = -1, UNKNOWN = -1000000001, OUTSIDE = -1000000002, NOT = -1000000003, FULL = -1000000004;

    private final String name;
    private int asked;
    private int wrong;

    Check(String name) {
        this.name = name;
    }

    void due(String call, long got, long want) {
        asked++;
        if (got != want) {
            wrong++;
            System.out.println(name + ": " + call + " answered " + got + ", due is " + want);
        }
    }

    void holds(String what, boolean is) {
        due(what, is ? 1 : 0, 1);
    }

    int asked() {
        return asked;
    }

    boolean passed() {
        return wrong == 0;
    }

    void end() {
        System.out.println(name + ": " + (asked - wrong) + " of " + asked + " answers are as due");
        if (wrong != 0 || asked == 0) {
            System.exit(1);
        }
    }

    static void feedAll(RubbedColours x, String text) {
        for (int i = 0; i < text.length(); i++) {
            x.feed(text.charAt(i));
        }
    }

    /** A new object that lives in the house of a text without fault. */
    static RubbedColours houseOf(String text) {
        RubbedColours x = new RubbedColours();
        feedAll(x, text);
        if (x.house() < 0) {
            throw new IllegalStateException("no house: " + text + ", fault at " + x.fault());
        }
        return x;
    }
}
