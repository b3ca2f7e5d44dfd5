/**
 * A house in which colours rub off: coats with colours as whole parts, gloves, soap, dogs and a
 * day of touches, told in a text. The numbered promises are in the document DOC.md.
 *
 * All rows are made by the constructors and used again, so that no call makes an object.
 */
public final class RubbedColours {
    public static final int NONE = -1, UNKNOWN = -1000000001, OUTSIDE = -1000000002, NOT = -1000000003, FULL = -1000000004;

    private static final int MOST_COLOURS = 5;
    private static final int MOST_COATS = 6;
    private static final int CELLS = MOST_COATS * MOST_COLOURS;
    private static final int ALL_PARTS = 60;
    private static final int MOST_RUB = 30;
    private static final int MOST_TOUCHES = 10;
    private static final int MOST_LETTERS = 240;
    private static final int MOST_SEEN = 8;
    private static final int MOST_ENTRIES = 15;
    private static final int MOST_UNDONE = 20;
    private static final int MOST_STEPS = 99;
    private static final int MOST_DAYS = 200;
    private static final int MOST_ROW = 3;
    private static final int IMAGES = 2;
    private static final int BILLION = 1000000000;
    private static final int WASH_ODDS = 9;
    /** What came() is asked with for the number of rows. */
    private static final int ROWS = -2;

    private final House house = new House();
    private final Reader reader = new Reader();
    private final RowSearch rowSearch = new RowSearch();
    private final OutSearch outSearch = new OutSearch();
    private final GapSearch gapSearch = new GapSearch();
    private final State now = new State();
    private final History history = new History();
    private final Notes seen = new Notes(MOST_SEEN);
    private final Notes book = new Notes(MOST_ENTRIES);
    private final State[] images = new State[IMAGES];
    private final int[] imageSeeds = new int[IMAGES];
    private final int[] tried = new int[CELLS];
    private final int[] before = new int[CELLS];
    private int imagesKept;
    private int theSeed;
    private int faultAt = NONE;

    public RubbedColours() {
        for (int i = 0; i < IMAGES; i++) {
            images[i] = new State();
        }
    }

    // ---- the house

    public int feed(int letter) {
        if (letter < 0 || letter > 255) {
            return OUTSIDE;
        }
        return reader.addLetter(letter);
    }

    public int house() {
        boolean faultless = reader.readText();
        reader.dropText();
        if (!faultless) {
            faultAt = reader.faultAt;
            return -10 - reader.faultNumber;
        }
        faultAt = NONE;
        moveIn(reader.draft);
        return house.coats;
    }

    public int fault() {
        return faultAt;
    }

    public int told(int what) {
        switch (what) {
            case 0: return house.colours;
            case 1: return house.rub;
            case 2: return house.coats;
            case 3: return house.touches;
            case 4: return reader.length;
            case 5: return now.gloves;
            case 6: return house.dogs;
            case 7: return now.soap;
            case 8: return now.touches;
            case 9: return seen.size;
            case 10: return book.size;
            case 11: return history.size;
            default: return OUTSIDE;
        }
    }

    public int parts(int a, int c) {
        return house.hasCell(a, c) ? now.parts[cell(a, c)] : UNKNOWN;
    }

    public int own(int a, int c) {
        return house.hasCell(a, c) ? house.own[cell(a, c)] : UNKNOWN;
    }

    public int gives(int a, int c) {
        return house.hasCell(a, c) ? house.giftOf(now.parts, a, c) : UNKNOWN;
    }

    public int planned(int k) {
        if (k < 0 || k >= house.touches) {
            return UNKNOWN;
        }
        return 10 * house.first[k] + house.second[k];
    }

    // ---- what is done

    public int touch(int a, int b) {
        if (!house.hasPair(a, b)) {
            return UNKNOWN;
        }
        history.remember(now);
        copyParts(now.parts, before);
        touchNow(a, b);
        int more = 0;
        for (int c = 0; c < house.colours; c++) {
            more += Math.max(0, now.parts[cell(a, c)] - before[cell(a, c)]);
        }
        return more;
    }

    public int glove(int a, boolean is) {
        if (!house.hasCoat(a)) {
            return UNKNOWN;
        }
        if (isIn(house.dogs, a)) {
            return NOT;
        }
        history.remember(now);
        int wore = isIn(now.gloves, a) ? 1 : 0;
        now.gloves = is ? now.gloves | 1 << a : now.gloves & ~(1 << a);
        return wore;
    }

    public int wash(int a) {
        if (!house.hasCoat(a)) {
            return UNKNOWN;
        }
        if (isIn(house.dogs, a)) {
            return NOT;
        }
        history.remember(now);
        washNow(a);
        return now.soap;
    }

    public int day() {
        if (house.touches == 0) {
            return NOT;
        }
        history.remember(now);
        house.goThroughDay(now.parts, now.gloves, 0);
        now.touches += house.touches;
        return now.touches;
    }

    public int drift(int n) {
        if (n < 1 || n > MOST_STEPS) {
            return OUTSIDE;
        }
        if (house.coats < 2) {
            return NOT;
        }
        history.remember(now);
        for (int step = 0; step < n; step++) {
            driftStep();
        }
        return now.touches;
    }

    public int undo() {
        if (history.size == 0) {
            return NOT;
        }
        history.takeBack(now);
        return history.size;
    }

    // ---- tried

    public int shows(int a, int c, int k) {
        if (!house.hasCell(a, c)) {
            return UNKNOWN;
        }
        if (k < 0 || k > house.touches) {
            return OUTSIDE;
        }
        copyParts(now.parts, tried);
        for (int n = 0; n < k; n++) {
            house.goPlanned(tried, now.gloves, n);
        }
        return tried[cell(a, c)];
    }

    public int alike(int a, int b) {
        if (!house.hasPair(a, b)) {
            return UNKNOWN;
        }
        copyParts(now.parts, tried);
        for (int k = 0; k < house.touches; k++) {
            if (lookAlike(a, b)) {
                return k;
            }
            house.goPlanned(tried, now.gloves, k);
        }
        return lookAlike(a, b) ? house.touches : NONE;
    }

    public int trail(int c, int a, int what) {
        if (!house.hasCell(a, c)) {
            return UNKNOWN;
        }
        if (what < 0 || what > 1) {
            return OUTSIDE;
        }
        int k = firstGain(a, c);
        if (k == NONE || what == 0) {
            return k;
        }
        return house.first[k] == a ? house.second[k] : house.first[k];
    }

    public int came(int a, int c, int v, int d, int u, int i) {
        if (!house.hasCell(a, c) || !house.hasColour(d) || c == d) {
            return UNKNOWN;
        }
        if (!isAmount(v) || !isAmount(u)) {
            return OUTSIDE;
        }
        rowSearch.aimAt(a, c, v, d, u);
        rowSearch.findFewest(house, now);
        if (rowSearch.fewest == NONE || i == NONE) {
            return rowSearch.fewest;
        }
        if (i == ROWS) {
            return rowSearch.rows;
        }
        return i >= 0 && i < rowSearch.fewest ? rowSearch.firstRow[i] : NONE;
    }

    public int met(int c, int v, int u, int what) {
        if (!house.hasColour(c)) {
            return UNKNOWN;
        }
        if (!isAmount(v) || !isAmount(u) || what < 0 || what > 1) {
            return OUTSIDE;
        }
        int count = 0;
        int firstPair = NONE;
        for (int a = 0; a < house.coats; a++) {
            for (int b = a + 1; b < house.coats; b++) {
                if (wouldHave(a, b, c, v, u)) {
                    firstPair = count == 0 ? 10 * a + b : firstPair;
                    count++;
                }
            }
        }
        return what == 0 ? count : firstPair;
    }

    public int leftOut(int a, int c, int v, int what) {
        if (!house.hasCell(a, c)) {
            return UNKNOWN;
        }
        if (!isAmount(v) || what < 0 || what > 1) {
            return OUTSIDE;
        }
        outSearch.findFewest(house, now, cell(a, c), v);
        return what == 0 ? outSearch.fewest : outSearch.leastSet;
    }

    public int washes(int c, int v) {
        if (!house.hasColour(c)) {
            return UNKNOWN;
        }
        if (!isAmount(v)) {
            return OUTSIDE;
        }
        copyParts(now.parts, tried);
        house.goThroughDay(tried, now.gloves, 0);
        int set = 0;
        for (int a = 0; a < house.coats; a++) {
            if (tried[cell(a, c)] > v) {
                if (isIn(house.dogs, a) || house.own[cell(a, c)] > v) {
                    return NONE;
                }
                set |= 1 << a;
            }
        }
        return set;
    }

    public int rest(int a, int c) {
        if (a != NONE && !house.hasCell(a, c)) {
            return UNKNOWN;
        }
        int days = daysToRest();
        if (a == NONE || days == NONE) {
            return days;
        }
        return tried[cell(a, c)];
    }

    public int rain(int c, int v, int q) {
        if (!house.hasColour(c)) {
            return UNKNOWN;
        }
        if (!isAmount(v) || q < 0 || q > 100) {
            return OUTSIDE;
        }
        long odds = BILLION;
        for (int a = 0; a < house.coats; a++) {
            if (now.parts[cell(a, c)] > v && !isIn(house.dogs, a)) {
                odds = odds * q / 100;
            }
        }
        return (int) odds;
    }

    public int blend(int set, int c) {
        if (set < 0 || set >> house.coats != 0 || !house.hasColour(c)) {
            return UNKNOWN;
        }
        int sum = 0;
        int count = 0;
        for (int a = 0; a < house.coats; a++) {
            if (isIn(set, a)) {
                sum += now.parts[cell(a, c)];
                count++;
            }
        }
        return count == 0 ? NONE : sum / count;
    }

    // ---- what was seen

    public int see(int a, int c, int v) {
        return noteIn(seen, a, c, v);
    }

    public int gap() {
        return gapSearch.findFitting(house, now, seen);
    }

    public int look() {
        return gapSearch.bestLook(house, gapSearch.findFitting(house, now, seen));
    }

    public int write(int a, int c, int v) {
        return noteIn(book, a, c, v);
    }

    public int tear() {
        int both = seen.size + book.size;
        seen.size = 0;
        book.size = 0;
        return both;
    }

    public int judge() {
        return book.firstWrong(now.parts);
    }

    // ---- draws, images

    public int seed(int v) {
        if (v < 0) {
            return OUTSIDE;
        }
        int was = theSeed;
        theSeed = v;
        return was;
    }

    public int keep(int i) {
        if (i < 0 || i >= IMAGES) {
            return UNKNOWN;
        }
        images[i].become(now);
        imageSeeds[i] = theSeed;
        imagesKept |= 1 << i;
        history.size = 0;
        return 1;
    }

    public int goBack(int i) {
        if (i < 0 || i >= IMAGES) {
            return UNKNOWN;
        }
        if (!isIn(imagesKept, i)) {
            return NOT;
        }
        now.become(images[i]);
        theSeed = imageSeeds[i];
        history.size = 0;
        return 1;
    }

    // ---- behind the calls

    private static int cell(int coat, int colour) {
        return coat * MOST_COLOURS + colour;
    }

    private static boolean isIn(int set, int k) {
        return (set >> k & 1) != 0;
    }

    private static boolean isAmount(int v) {
        return v >= 0 && v <= ALL_PARTS;
    }

    private static void copyParts(int[] from, int[] to) {
        System.arraycopy(from, 0, to, 0, CELLS);
    }

    private void moveIn(House told) {
        house.become(told);
        copyParts(house.own, now.parts);
        now.gloves = house.glovesAtFirst;
        now.soap = 0;
        now.touches = 0;
        seen.size = 0;
        book.size = 0;
        history.size = 0;
        imagesKept = 0;
    }

    private void touchNow(int a, int b) {
        house.exchange(now.parts, now.gloves, a, b);
        now.touches++;
    }

    private void washNow(int a) {
        System.arraycopy(house.own, cell(a, 0), now.parts, cell(a, 0), MOST_COLOURS);
        now.soap++;
    }

    private void driftStep() {
        int a = drawOf(house.coats);
        int behind = drawOf(house.coats - 1) + 1;
        int b = a + behind < house.coats ? a + behind : a + behind - house.coats;
        touchNow(a, b);
        if (drawOf(WASH_ODDS) == 0) {
            int washed = drawOf(house.coats);
            if (!isIn(house.dogs, washed)) {
                washNow(washed);
            }
        }
    }

    private int drawOf(int n) {
        theSeed = (int) (theSeed * 1103515245L + 12345L & 0x7fffffffL);
        return n > 0 ? theSeed / 65536 % n : 0;
    }

    private boolean lookAlike(int a, int b) {
        for (int c = 0; c < house.colours; c++) {
            if (tried[cell(a, c)] != tried[cell(b, c)]) {
                return false;
            }
        }
        return true;
    }

    private int firstGain(int a, int c) {
        copyParts(now.parts, tried);
        for (int k = 0; k < house.touches; k++) {
            int had = tried[cell(a, c)];
            house.goPlanned(tried, now.gloves, k);
            if (tried[cell(a, c)] > had) {
                return k;
            }
        }
        return NONE;
    }

    private boolean wouldHave(int a, int b, int c, int v, int u) {
        copyParts(now.parts, tried);
        house.exchange(tried, now.gloves, a, b);
        int one = tried[cell(a, c)];
        int other = tried[cell(b, c)];
        return one == v && other == u || one == u && other == v;
    }

    /** Leaves in the tried row what the coats have at rest. */
    private int daysToRest() {
        copyParts(now.parts, tried);
        for (int days = 0; days <= MOST_DAYS; days++) {
            copyParts(tried, before);
            house.goThroughDay(tried, now.gloves, 0);
            if (isUnchanged()) {
                return days;
            }
        }
        return NONE;
    }

    private boolean isUnchanged() {
        for (int k = 0; k < CELLS; k++) {
            if (tried[k] != before[k]) {
                return false;
            }
        }
        return true;
    }

    private int noteIn(Notes notes, int a, int c, int v) {
        if (!house.hasCell(a, c)) {
            return UNKNOWN;
        }
        if (!isAmount(v)) {
            return OUTSIDE;
        }
        return notes.addNote(cell(a, c), v);
    }

    /** What a text tells, and how colours rub off by it: on parts that are so, or only tried. */
    private static final class House {
        final int[] own = new int[CELLS];
        final int[] first = new int[MOST_TOUCHES];
        final int[] second = new int[MOST_TOUCHES];
        private final int[] fromFirst = new int[MOST_COLOURS];
        private final int[] fromSecond = new int[MOST_COLOURS];
        private final int[] rests = new int[MOST_COLOURS];
        int colours;
        int rub;
        int coats;
        int glovesAtFirst;
        int dogs;
        int touches;

        void clear() {
            colours = 0;
            rub = 0;
            coats = 0;
            glovesAtFirst = 0;
            dogs = 0;
            touches = 0;
        }

        void become(House other) {
            copyParts(other.own, own);
            System.arraycopy(other.first, 0, first, 0, MOST_TOUCHES);
            System.arraycopy(other.second, 0, second, 0, MOST_TOUCHES);
            colours = other.colours;
            rub = other.rub;
            coats = other.coats;
            glovesAtFirst = other.glovesAtFirst;
            dogs = other.dogs;
            touches = other.touches;
        }

        boolean hasCoat(int a) {
            return a >= 0 && a < coats;
        }

        boolean hasColour(int c) {
            return c >= 0 && c < colours;
        }

        boolean hasCell(int a, int c) {
            return hasCoat(a) && hasColour(c);
        }

        boolean hasPair(int a, int b) {
            return hasCoat(a) && hasCoat(b) && a != b;
        }

        int giftOf(int[] parts, int a, int c) {
            fillGift(parts, a, fromFirst);
            return fromFirst[c];
        }

        void exchange(int[] parts, int gloves, int a, int b) {
            if (isIn(gloves, a) || isIn(gloves, b)) {
                return;
            }
            fillGift(parts, a, fromFirst);
            fillGift(parts, b, fromSecond);
            for (int c = 0; c < colours; c++) {
                int gain = fromSecond[c] - fromFirst[c];
                parts[cell(a, c)] += gain;
                parts[cell(b, c)] -= gain;
            }
        }

        void goPlanned(int[] parts, int gloves, int k) {
            if (k >= 0 && k < touches) {
                exchange(parts, gloves, first[k], second[k]);
            }
        }

        void goThroughDay(int[] parts, int gloves, int without) {
            for (int k = 0; k < touches; k++) {
                if (!isIn(without, k)) {
                    goPlanned(parts, gloves, k);
                }
            }
        }

        private void fillGift(int[] parts, int a, int[] gift) {
            int left = rub;
            for (int c = 0; c < colours; c++) {
                int product = rub * parts[cell(a, c)];
                gift[c] = product / ALL_PARTS;
                rests[c] = product % ALL_PARTS;
                left -= gift[c];
            }
            for (int n = 0; n < left; n++) {
                int c = greatestRest();
                gift[c]++;
                rests[c] = -1;
            }
        }

        private int greatestRest() {
            int best = 0;
            for (int c = 1; c < colours; c++) {
                if (rests[c] > rests[best]) {
                    best = c;
                }
            }
            return best;
        }
    }

    /** What changes in a house. */
    private static final class State {
        final int[] parts = new int[CELLS];
        int gloves;
        int soap;
        int touches;

        void become(State other) {
            copyParts(other.parts, parts);
            gloves = other.gloves;
            soap = other.soap;
            touches = other.touches;
        }
    }

    /** The text, and the reader that makes a house of it or finds its first fault. */
    private static final class Reader {
        private static final int END = -1;
        final House draft = new House();
        final int[] letters = new int[MOST_LETTERS];
        int length;
        int faultNumber;
        int faultAt = NONE;
        private int at;
        private int number;
        private int numberAt;

        int addLetter(int letter) {
            if (length >= MOST_LETTERS) {
                return FULL;
            }
            letters[length] = letter;
            length++;
            return length;
        }

        void dropText() {
            length = 0;
        }

        boolean readText() {
            draft.clear();
            at = 0;
            boolean faultless = true;
            for (int n = 0; n <= MOST_LETTERS && faultless && ahead() != END; n++) {
                faultless = readClause();
            }
            return faultless;
        }

        private boolean readClause() {
            int word = ahead();
            if (draft.colours == 0 && word != 'c') {
                return failAt(at, 1);
            }
            switch (word) {
                case 'c': return readColours();
                case 'p': return readCoat();
                case 'g': return readGloves();
                case 't': return readDay();
                case 'h': return readDog();
                default: return failAt(at, 1);
            }
        }

        private boolean readColours() {
            if (draft.colours > 0) {
                return failAt(at, 3);
            }
            at++;
            if (!readNumber(2, MOST_COLOURS)) {
                return false;
            }
            int colours = number;
            if (!readNumber(1, MOST_RUB)) {
                return false;
            }
            draft.colours = colours;
            draft.rub = number;
            return readSign(';');
        }

        private boolean readCoat() {
            if (draft.coats >= MOST_COATS) {
                return failAt(at, 3);
            }
            at++;
            int sum = 0;
            for (int c = 0; c < draft.colours; c++) {
                if (c > 0 && !readSign(',') || !readNumber(0, ALL_PARTS)) {
                    return false;
                }
                draft.own[cell(draft.coats, c)] = number;
                sum += number;
            }
            if (sum != ALL_PARTS) {
                return failAt(numberAt, 4);
            }
            draft.coats++;
            return readSign(';');
        }

        private boolean readGloves() {
            if (!readUnmarked()) {
                return false;
            }
            draft.glovesAtFirst |= 1 << number;
            return readSign(';');
        }

        private boolean readDog() {
            if (!readUnmarked()) {
                return false;
            }
            draft.dogs |= 1 << number;
            return readSign(';');
        }

        /** A coat takes either mark once, and never both: so one test serves both words. */
        private boolean readUnmarked() {
            at++;
            if (!readToldCoat()) {
                return false;
            }
            return !isIn(draft.glovesAtFirst | draft.dogs, number) || failAt(numberAt, 4);
        }

        private boolean readDay() {
            if (draft.touches > 0) {
                return failAt(at, 3);
            }
            for (int n = 0; n < MOST_TOUCHES && (n == 0 || ahead() == ','); n++) {
                at++;
                if (!readTouch(n)) {
                    return false;
                }
                draft.touches = n + 1;
            }
            return readSign(';');
        }

        private boolean readTouch(int n) {
            if (!readToldCoat()) {
                return false;
            }
            int a = number;
            if (!readToldCoat()) {
                return false;
            }
            if (number == a) {
                return failAt(numberAt, 4);
            }
            draft.first[n] = a;
            draft.second[n] = number;
            return true;
        }

        private boolean readToldCoat() {
            return readNumber(0, draft.coats - 1);
        }

        private boolean readNumber(int least, int greatest) {
            if (!isFigure(ahead())) {
                return failAt(at, 1);
            }
            numberAt = at;
            number = 0;
            while (at < length && isFigure(letters[at])) {
                // a fourth figure is a fault already: the value need not grow any more
                number = at - numberAt < 3 ? number * 10 + letters[at] - '0' : number;
                at++;
            }
            if (at - numberAt > 3 || number < least || number > greatest) {
                return failAt(numberAt, 2);
            }
            return true;
        }

        private boolean readSign(int sign) {
            if (ahead() != sign) {
                return failAt(at, 1);
            }
            at++;
            return true;
        }

        /** The next letter that is no blank, not taken yet. */
        private int ahead() {
            while (at < length && letters[at] == ' ') {
                at++;
            }
            return at < length ? letters[at] : END;
        }

        private static boolean isFigure(int letter) {
            return letter >= '0' && letter <= '9';
        }

        /** Always false, so that a reading can end with it. */
        private boolean failAt(int place, int fault) {
            faultAt = place;
            faultNumber = fault;
            return false;
        }
    }

    /** The fewest touches by which a coat has told parts of two colours. */
    private static final class RowSearch {
        private final int[][] behind = new int[MOST_ROW + 1][CELLS];
        private final int[] row = new int[MOST_ROW];
        final int[] firstRow = new int[MOST_ROW];
        int fewest;
        int rows;
        private int gloves;
        private int coat;
        private int oneCell;
        private int onePart;
        private int otherCell;
        private int otherPart;

        void aimAt(int a, int c, int v, int d, int u) {
            coat = a;
            oneCell = cell(a, c);
            onePart = v;
            otherCell = cell(a, d);
            otherPart = u;
        }

        void findFewest(House house, State now) {
            copyParts(now.parts, behind[0]);
            gloves = now.gloves;
            fewest = NONE;
            rows = 0;
            for (int length = 0; length <= MOST_ROW && rows == 0; length++) {
                goOn(house, 0, length);
                fewest = rows > 0 ? length : NONE;
            }
        }

        private void goOn(House house, int depth, int length) {
            if (depth >= length || depth >= MOST_ROW) {
                countIfFits(depth);
                return;
            }
            for (int a = 0; a < house.coats; a++) {
                for (int b = a + 1; b < house.coats; b++) {
                    if (canServe(a, b, depth + 1 == length)) {
                        row[depth] = 10 * a + b;
                        copyParts(behind[depth], behind[depth + 1]);
                        house.exchange(behind[depth + 1], gloves, a, b);
                        goOn(house, depth + 1, length);
                    }
                }
            }
        }

        /** A touch that changes nothing, or a last one of others, would leave a shorter row that fits. */
        private boolean canServe(int a, int b, boolean isLast) {
            if (isIn(gloves, a) || isIn(gloves, b)) {
                return false;
            }
            return !isLast || a == coat || b == coat;
        }

        private void countIfFits(int depth) {
            if (behind[depth][oneCell] != onePart || behind[depth][otherCell] != otherPart) {
                return;
            }
            if (rows == 0) {
                System.arraycopy(row, 0, firstRow, 0, MOST_ROW);
            }
            rows++;
        }
    }

    /** The fewest touches of the day without which a coat has no more than told of a colour. */
    private static final class OutSearch {
        private final int[][] behind = new int[MOST_TOUCHES + 1][CELLS];
        int fewest;
        int leastSet;
        private int gloves;
        private int wantedCell;
        private int mostParts;

        void findFewest(House house, State now, int cell, int most) {
            copyParts(now.parts, behind[0]);
            gloves = now.gloves;
            wantedCell = cell;
            mostParts = most;
            fewest = NONE;
            leastSet = NONE;
            goOn(house, 0, 0);
        }

        private void goOn(House house, int k, int set) {
            if (!isBetter(set)) {
                return;
            }
            if (k >= house.touches || k >= MOST_TOUCHES) {
                takeIfFits(behind[k], set);
                return;
            }
            copyParts(behind[k], behind[k + 1]);
            house.goPlanned(behind[k + 1], gloves, k);
            goOn(house, k + 1, set);
            copyParts(behind[k], behind[k + 1]);
            goOn(house, k + 1, set | 1 << k);
        }

        /** A set only grows in count and in value further on: what is not better now never will be. */
        private boolean isBetter(int set) {
            int count = Integer.bitCount(set);
            return fewest == NONE || count < fewest || count == fewest && set < leastSet;
        }

        private void takeIfFits(int[] parts, int set) {
            if (parts[wantedCell] <= mostParts) {
                fewest = Integer.bitCount(set);
                leastSet = set;
            }
        }
    }

    /** Which touch of the day can have been left out, by what was seen, and where to look next. */
    private static final class GapSearch {
        private final int[][] ends = new int[MOST_TOUCHES + 1][CELLS];
        private final int[] tally = new int[ALL_PARTS + 1];

        int findFitting(House house, State now, Notes seen) {
            int set = 0;
            // the bit behind the last touch leaves out no touch, as it should
            for (int k = 0; k <= house.touches && k <= MOST_TOUCHES; k++) {
                copyParts(now.parts, ends[k]);
                house.goThroughDay(ends[k], now.gloves, 1 << k);
                if (seen.firstWrong(ends[k]) == NONE) {
                    set |= 1 << k;
                }
            }
            return set;
        }

        /** To be asked behind findFitting(), whose ends it goes by. */
        int bestLook(House house, int set) {
            int least = Integer.bitCount(set);
            int best = NONE;
            for (int a = 0; a < house.coats; a++) {
                for (int c = 0; c < house.colours; c++) {
                    int greatest = greatestPart(set, cell(a, c));
                    if (greatest < least) {
                        least = greatest;
                        best = 10 * a + c;
                    }
                }
            }
            return best;
        }

        private int greatestPart(int set, int cell) {
            for (int v = 0; v <= ALL_PARTS; v++) {
                tally[v] = 0;
            }
            int greatest = 0;
            for (int k = 0; k <= MOST_TOUCHES; k++) {
                int v = ends[k][cell];
                if (isIn(set, k) && isAmount(v)) {
                    tally[v]++;
                    greatest = Math.max(greatest, tally[v]);
                }
            }
            return greatest;
        }
    }

    /** Parts told of colours on coats, one behind the other. */
    private static final class Notes {
        private final int[] cells;
        private final int[] amounts;
        private final int most;
        int size;

        Notes(int most) {
            this.most = most;
            cells = new int[most];
            amounts = new int[most];
        }

        int addNote(int cell, int amount) {
            if (size >= most) {
                return FULL;
            }
            cells[size] = cell;
            amounts[size] = amount;
            size++;
            return size;
        }

        int firstWrong(int[] parts) {
            for (int n = 0; n < size; n++) {
                if (parts[cells[n]] != amounts[n]) {
                    return n;
                }
            }
            return NONE;
        }
    }

    /** What was so ahead of the latest deeds: a ring, in which the oldest is written over. */
    private static final class History {
        private final State[] steps = new State[MOST_UNDONE];
        private int next;
        int size;

        History() {
            for (int n = 0; n < MOST_UNDONE; n++) {
                steps[n] = new State();
            }
        }

        void remember(State now) {
            steps[next].become(now);
            next = next + 1 < MOST_UNDONE ? next + 1 : 0;
            size = Math.min(size + 1, MOST_UNDONE);
        }

        void takeBack(State now) {
            if (size > 0) {
                next = next > 0 ? next - 1 : MOST_UNDONE - 1;
                now.become(steps[next]);
                size--;
            }
        }
    }
}
