import java.util.ArrayDeque;
import java.util.ArrayList;
import java.util.Arrays;
import java.util.HashMap;
import java.util.List;
import java.util.Map;
import java.util.TreeSet;

/**
 * The document once more, written for plainness alone: every row, every set is tried whole, and
 * every try works on a copy. ModelTest holds the class against it.
 */
final class PlainModel {
    private static final int NONE = -1, UNKNOWN = -1000000001, OUTSIDE = -1000000002, NOT = -1000000003, FULL = -1000000004;

    /** What can be undone, and with the seed an image. */
    private static final class Sight {
        int[][] parts = new int[0][0];
        TreeSet<Integer> gloves = new TreeSet<>();
        int soap;
        int touches;
        long seed;

        Sight copy() {
            Sight s = new Sight();
            s.parts = copyOf(parts);
            s.gloves = new TreeSet<>(gloves);
            s.soap = soap;
            s.touches = touches;
            s.seed = seed;
            return s;
        }
    }

    private record Token(String text, int at) {
        boolean isNumber() {
            return !text.isEmpty() && Character.isDigit(text.charAt(0));
        }
    }

    private static final class Fault extends RuntimeException {
        private static final long serialVersionUID = 1;
        final int number;
        final int at;

        Fault(int number, int at) {
            this.number = number;
            this.at = at;
        }
    }

    private final StringBuilder text = new StringBuilder();
    private int faultAt = NONE;
    private int colours, rub;
    private List<int[]> own = new ArrayList<>();
    private List<int[]> plan = new ArrayList<>();
    private TreeSet<Integer> dogs = new TreeSet<>();
    private Sight now = new Sight();
    private final ArrayDeque<Sight> undo = new ArrayDeque<>();
    private final Sight[] images = new Sight[2];
    private final List<int[]> seen = new ArrayList<>();
    private final List<int[]> book = new ArrayList<>();

    private static int[][] copyOf(int[][] rows) {
        int[][] copy = new int[rows.length][];
        for (int a = 0; a < rows.length; a++) {
            copy[a] = rows[a].clone();
        }
        return copy;
    }

    private int coats() {
        return own.size();
    }

    private boolean coat(int a) {
        return a >= 0 && a < coats();
    }

    private boolean colour(int c) {
        return c >= 0 && c < colours;
    }

    private static boolean sixty(int v) {
        return v >= 0 && v <= 60;
    }

    private static int bits(Iterable<Integer> set) {
        int bits = 0;
        for (int k : set) {
            bits |= 1 << k;
        }
        return bits;
    }

    // ---- the text: cut into tokens first, then read

    private static List<Token> cut(String text) {
        List<Token> tokens = new ArrayList<>();
        int i = 0;
        while (i < text.length()) {
            int start = i;
            char ch = text.charAt(i++);
            if (ch == ' ') {
                continue;
            }
            if (ch >= '0' && ch <= '9') {
                while (i < text.length() && text.charAt(i) >= '0' && text.charAt(i) <= '9') {
                    i++;
                }
            }
            tokens.add(new Token(text.substring(start, i), start));
        }
        tokens.add(new Token("", text.length()));
        return tokens;
    }

    private final class Draft {
        final List<Token> tokens;
        int next;
        int colours, rub;
        final List<int[]> own = new ArrayList<>();
        final List<int[]> plan = new ArrayList<>();
        final TreeSet<Integer> gloves = new TreeSet<>(), dogs = new TreeSet<>();

        Draft(String text) {
            tokens = cut(text);
        }

        Token peek() {
            return tokens.get(next);
        }

        int number(int least, int most) {
            Token t = peek();
            if (!t.isNumber()) {
                throw new Fault(1, t.at);
            }
            if (t.text.length() > 3 || Integer.parseInt(t.text) < least || Integer.parseInt(t.text) > most) {
                throw new Fault(2, t.at);
            }
            next++;
            return Integer.parseInt(t.text);
        }

        void sign(String sign) {
            if (!peek().text.equals(sign)) {
                throw new Fault(1, peek().at);
            }
            next++;
        }

        void all() {
            while (!peek().text.isEmpty()) {
                String word = peek().text;
                int at = peek().at;
                if (!List.of("c", "p", "g", "t", "h").contains(word) || colours == 0 && !word.equals("c")) {
                    throw new Fault(1, at);
                }
                if (word.equals("c") && colours > 0 || word.equals("t") && !plan.isEmpty() || word.equals("p") && own.size() == 6) {
                    throw new Fault(3, at);
                }
                next++;
                clause(word);
                sign(";");
            }
        }

        void clause(String word) {
            if (word.equals("c")) {
                int n = number(2, 5);
                rub = number(1, 30);
                colours = n;
            } else if (word.equals("p")) {
                int[] x = new int[colours];
                int at = 0;
                for (int c = 0; c < colours; c++) {
                    if (c > 0) {
                        sign(",");
                    }
                    at = peek().at;
                    x[c] = number(0, 60);
                }
                if (Arrays.stream(x).sum() != 60) {
                    throw new Fault(4, at);
                }
                own.add(x);
            } else if (word.equals("t")) {
                touches();
            } else {
                int at = peek().at;
                int a = number(0, own.size() - 1);
                if (gloves.contains(a) || dogs.contains(a)) {
                    throw new Fault(4, at);
                }
                (word.equals("g") ? gloves : dogs).add(a);
            }
        }

        void touches() {
            while (true) {
                int a = number(0, own.size() - 1);
                int at = peek().at;
                int b = number(0, own.size() - 1);
                if (a == b) {
                    throw new Fault(4, at);
                }
                plan.add(new int[] {a, b});
                if (!peek().text.equals(",") || plan.size() == 10) {
                    return;
                }
                next++;
            }
        }
    }

    int feed(int letter) {
        if (letter < 0 || letter > 255) {
            return OUTSIDE;
        }
        if (text.length() == 240) {
            return FULL;
        }
        text.append((char) letter);
        return text.length();
    }

    int house() {
        Draft draft = new Draft(text.toString());
        text.setLength(0);
        try {
            draft.all();
        } catch (Fault fault) {
            faultAt = fault.at;
            return -10 - fault.number;
        }
        faultAt = NONE;
        colours = draft.colours;
        rub = draft.rub;
        own = draft.own;
        plan = draft.plan;
        dogs = draft.dogs;
        long seed = now.seed;
        now = new Sight();
        now.seed = seed;
        now.gloves = draft.gloves;
        now.parts = copyOf(own.toArray(new int[0][]));
        seen.clear();
        book.clear();
        undo.clear();
        images[0] = null;
        images[1] = null;
        return coats();
    }

    int fault() {
        return faultAt;
    }

    int told(int what) {
        int[] all = {colours, rub, coats(), plan.size(), text.length(), bits(now.gloves), bits(dogs), now.soap, now.touches,
            seen.size(), book.size(), undo.size()};
        return what < 0 || what >= all.length ? OUTSIDE : all[what];
    }

    int parts(int a, int c) {
        return coat(a) && colour(c) ? now.parts[a][c] : UNKNOWN;
    }

    int own(int a, int c) {
        return coat(a) && colour(c) ? own.get(a)[c] : UNKNOWN;
    }

    int gives(int a, int c) {
        return coat(a) && colour(c) ? gift(now.parts[a])[c] : UNKNOWN;
    }

    int planned(int k) {
        return k < 0 || k >= plan.size() ? UNKNOWN : 10 * plan.get(k)[0] + plan.get(k)[1];
    }

    private int[] gift(int[] coat) {
        int[] gift = new int[colours];
        List<Integer> byRest = new ArrayList<>();
        int left = rub;
        for (int c = 0; c < colours; c++) {
            gift[c] = rub * coat[c] / 60;
            left -= gift[c];
            byRest.add(c);
        }
        // the sort is stable: of like rests the least colour stays ahead
        byRest.sort((c, d) -> rub * coat[d] % 60 - rub * coat[c] % 60);
        for (int n = 0; n < left; n++) {
            gift[byRest.get(n)]++;
        }
        return gift;
    }

    private void rub(int[][] parts, int a, int b) {
        if (now.gloves.contains(a) || now.gloves.contains(b)) {
            return;
        }
        int[] ga = gift(parts[a]);
        int[] gb = gift(parts[b]);
        for (int c = 0; c < colours; c++) {
            parts[a][c] = parts[a][c] - ga[c] + gb[c];
            parts[b][c] = parts[b][c] - gb[c] + ga[c];
        }
    }

    private void remember() {
        undo.addLast(now.copy());
        if (undo.size() > 20) {
            undo.removeFirst();
        }
    }

    // ---- what is done

    int touch(int a, int b) {
        if (!coat(a) || !coat(b) || a == b) {
            return UNKNOWN;
        }
        remember();
        int[] was = now.parts[a].clone();
        rub(now.parts, a, b);
        now.touches++;
        int otherwise = 0;
        for (int c = 0; c < colours; c++) {
            otherwise += Math.abs(now.parts[a][c] - was[c]);
        }
        return otherwise / 2;
    }

    int glove(int a, boolean is) {
        if (!coat(a)) {
            return UNKNOWN;
        }
        if (dogs.contains(a)) {
            return NOT;
        }
        remember();
        int wore = now.gloves.contains(a) ? 1 : 0;
        if (is) {
            now.gloves.add(a);
        } else {
            now.gloves.remove(a);
        }
        return wore;
    }

    int wash(int a) {
        if (!coat(a)) {
            return UNKNOWN;
        }
        if (dogs.contains(a)) {
            return NOT;
        }
        remember();
        now.parts[a] = own.get(a).clone();
        return ++now.soap;
    }

    int day() {
        if (plan.isEmpty()) {
            return NOT;
        }
        remember();
        now.parts = end(now.parts, plan.size(), 0);
        return now.touches += plan.size();
    }

    private int draw(int n) {
        now.seed = (now.seed * 1103515245L + 12345L) % 2147483648L;
        return (int) (now.seed / 65536 % n);
    }

    int drift(int n) {
        if (n < 1 || n > 99) {
            return OUTSIDE;
        }
        if (coats() < 2) {
            return NOT;
        }
        remember();
        for (int step = 0; step < n; step++) {
            int a = draw(coats());
            int b = (a + draw(coats() - 1) + 1) % coats();
            rub(now.parts, a, b);
            now.touches++;
            if (draw(9) == 0) {
                int w = draw(coats());
                if (!dogs.contains(w)) {
                    now.parts[w] = own.get(w).clone();
                    now.soap++;
                }
            }
        }
        return now.touches;
    }

    int undo() {
        if (undo.isEmpty()) {
            return NOT;
        }
        long seed = now.seed;
        now = undo.removeLast();
        now.seed = seed;
        return undo.size();
    }

    // ---- tried

    /** The first k touches of the day on a copy, without those of a set. */
    private int[][] end(int[][] from, int k, int without) {
        int[][] parts = copyOf(from);
        for (int n = 0; n < k; n++) {
            if ((without & 1 << n) == 0) {
                rub(parts, plan.get(n)[0], plan.get(n)[1]);
            }
        }
        return parts;
    }

    int shows(int a, int c, int k) {
        if (!coat(a) || !colour(c)) {
            return UNKNOWN;
        }
        if (k < 0 || k > plan.size()) {
            return OUTSIDE;
        }
        return end(now.parts, k, 0)[a][c];
    }

    int alike(int a, int b) {
        if (!coat(a) || !coat(b) || a == b) {
            return UNKNOWN;
        }
        for (int k = 0; k <= plan.size(); k++) {
            int[][] parts = end(now.parts, k, 0);
            if (Arrays.equals(parts[a], parts[b])) {
                return k;
            }
        }
        return NONE;
    }

    int trail(int c, int a, int what) {
        if (!coat(a) || !colour(c)) {
            return UNKNOWN;
        }
        if (what != 0 && what != 1) {
            return OUTSIDE;
        }
        for (int k = 0; k < plan.size(); k++) {
            if (end(now.parts, k + 1, 0)[a][c] > end(now.parts, k, 0)[a][c]) {
                return what == 0 ? k : plan.get(k)[0] + plan.get(k)[1] - a;
            }
        }
        return NONE;
    }

    int came(int a, int c, int v, int d, int u, int i) {
        if (!coat(a) || !colour(c) || !colour(d) || c == d) {
            return UNKNOWN;
        }
        if (!sixty(v) || !sixty(u)) {
            return OUTSIDE;
        }
        List<int[]> pairs = new ArrayList<>();
        for (int p = 0; p < coats(); p++) {
            for (int q = p + 1; q < coats(); q++) {
                pairs.add(new int[] {p, q});
            }
        }
        List<List<int[]>> rows = new ArrayList<>();
        rows.add(new ArrayList<>());
        for (int length = 0; length <= 3; length++) {
            List<List<int[]>> fits = new ArrayList<>();
            for (List<int[]> row : rows) {
                int[][] parts = copyOf(now.parts);
                for (int[] pair : row) {
                    rub(parts, pair[0], pair[1]);
                }
                if (parts[a][c] == v && parts[a][d] == u) {
                    fits.add(row);
                }
            }
            if (!fits.isEmpty()) {
                List<int[]> first = fits.get(0);
                if (i == NONE || i == -2) {
                    return i == NONE ? length : fits.size();
                }
                return i >= 0 && i < length ? 10 * first.get(i)[0] + first.get(i)[1] : NONE;
            }
            List<List<int[]>> longer = new ArrayList<>();
            for (List<int[]> row : rows) {
                for (int[] pair : pairs) {
                    List<int[]> more = new ArrayList<>(row);
                    more.add(pair);
                    longer.add(more);
                }
            }
            rows = longer;
        }
        return NONE;
    }

    int met(int c, int v, int u, int what) {
        if (!colour(c)) {
            return UNKNOWN;
        }
        if (!sixty(v) || !sixty(u) || what != 0 && what != 1) {
            return OUTSIDE;
        }
        List<Integer> pairs = new ArrayList<>();
        for (int code = 0; code < 60; code++) {
            int a = code / 10;
            int b = code % 10;
            if (a < b && coat(b)) {
                int[][] parts = copyOf(now.parts);
                rub(parts, a, b);
                List<Integer> have = List.of(parts[a][c], parts[b][c]);
                if (have.equals(List.of(v, u)) || have.equals(List.of(u, v))) {
                    pairs.add(code);
                }
            }
        }
        return what == 0 ? pairs.size() : pairs.isEmpty() ? NONE : pairs.get(0);
    }

    int leftOut(int a, int c, int v, int what) {
        if (!coat(a) || !colour(c)) {
            return UNKNOWN;
        }
        if (!sixty(v) || what != 0 && what != 1) {
            return OUTSIDE;
        }
        int best = NONE;
        for (int set = 0; set < 1 << plan.size(); set++) {
            boolean fewer = best == NONE || Integer.bitCount(set) < Integer.bitCount(best);
            if (fewer && end(now.parts, plan.size(), set)[a][c] <= v) {
                best = set;
            }
        }
        return best == NONE || what == 1 ? best : Integer.bitCount(best);
    }

    int washes(int c, int v) {
        if (!colour(c)) {
            return UNKNOWN;
        }
        if (!sixty(v)) {
            return OUTSIDE;
        }
        int[][] parts = end(now.parts, plan.size(), 0);
        TreeSet<Integer> more = new TreeSet<>();
        for (int a = 0; a < coats(); a++) {
            if (parts[a][c] > v) {
                more.add(a);
            }
        }
        for (int a : more) {
            if (dogs.contains(a) || own.get(a)[c] > v) {
                return NONE;
            }
        }
        return bits(more);
    }

    int rest(int a, int c) {
        if (a != NONE && (!coat(a) || !colour(c))) {
            return UNKNOWN;
        }
        int[][] parts = copyOf(now.parts);
        for (int days = 0; days <= 200; days++) {
            int[][] next = end(parts, plan.size(), 0);
            if (Arrays.deepEquals(parts, next)) {
                return a == NONE ? days : parts[a][c];
            }
            parts = next;
        }
        return NONE;
    }

    int rain(int c, int v, int q) {
        if (!colour(c)) {
            return UNKNOWN;
        }
        if (!sixty(v) || q < 0 || q > 100) {
            return OUTSIDE;
        }
        long odds = 1000000000L;
        for (int a = 0; a < coats(); a++) {
            if (!dogs.contains(a) && now.parts[a][c] > v) {
                odds = odds * q / 100;
            }
        }
        return (int) odds;
    }

    int blend(int set, int c) {
        if (!colour(c) || (set & ~((1 << coats()) - 1)) != 0) {
            return UNKNOWN;
        }
        int sum = 0;
        for (int a = 0; a < coats(); a++) {
            sum += (set & 1 << a) != 0 ? now.parts[a][c] : 0;
        }
        return set == 0 ? NONE : sum / Integer.bitCount(set);
    }

    // ---- what was seen

    private int note(List<int[]> notes, int most, int a, int c, int v) {
        if (!coat(a) || !colour(c)) {
            return UNKNOWN;
        }
        if (!sixty(v)) {
            return OUTSIDE;
        }
        if (notes.size() == most) {
            return FULL;
        }
        notes.add(new int[] {a, c, v});
        return notes.size();
    }

    int see(int a, int c, int v) {
        return note(seen, 8, a, c, v);
    }

    private List<int[][]> fitting(TreeSet<Integer> which) {
        List<int[][]> ends = new ArrayList<>();
        for (int k = 0; k <= plan.size(); k++) {
            int[][] end = end(now.parts, plan.size(), k == plan.size() ? 0 : 1 << k);
            if (seen.stream().allMatch(s -> end[s[0]][s[1]] == s[2])) {
                which.add(k);
                ends.add(end);
            }
        }
        return ends;
    }

    int gap() {
        TreeSet<Integer> which = new TreeSet<>();
        fitting(which);
        return bits(which);
    }

    int look() {
        List<int[][]> ends = fitting(new TreeSet<>());
        int least = Integer.MAX_VALUE;
        int best = NONE;
        for (int a = 0; a < coats(); a++) {
            for (int c = 0; c < colours; c++) {
                Map<Integer, Integer> sizes = new HashMap<>();
                for (int[][] end : ends) {
                    sizes.merge(end[a][c], 1, Integer::sum);
                }
                int greatest = sizes.values().stream().mapToInt(n -> n).max().orElse(0);
                if (sizes.size() > 1 && greatest < least) {
                    least = greatest;
                    best = 10 * a + c;
                }
            }
        }
        return best;
    }

    int write(int a, int c, int v) {
        return note(book, 15, a, c, v);
    }

    int tear() {
        int both = seen.size() + book.size();
        seen.clear();
        book.clear();
        return both;
    }

    int judge() {
        for (int[] entry : book) {
            if (now.parts[entry[0]][entry[1]] != entry[2]) {
                return book.indexOf(entry);
            }
        }
        return NONE;
    }

    // ---- draws, images

    int seed(int v) {
        if (v < 0) {
            return OUTSIDE;
        }
        int was = (int) now.seed;
        now.seed = v;
        return was;
    }

    int keep(int i) {
        if (i != 0 && i != 1) {
            return UNKNOWN;
        }
        images[i] = now.copy();
        undo.clear();
        return 1;
    }

    int goBack(int i) {
        if (i != 0 && i != 1) {
            return UNKNOWN;
        }
        if (images[i] == null) {
            return NOT;
        }
        now = images[i].copy();
        undo.clear();
        return 1;
    }
}
