import java.util.ArrayList;
import java.util.List;
import java.util.Random;

/** All promises: random runs of calls, every answer held against the plain model's. */
public final class ModelTest {
    private static final int RUNS = 4000;
    private static final int CALLS = 512;
    private static final String[] NAMES = {"parts", "own", "gives", "planned", "touch", "glove", "wash", "day", "drift", "undo",
        "shows", "alike", "trail", "came", "met", "leftOut", "washes", "rest", "rain", "blend", "see", "gap", "look", "write",
        "tear", "judge", "seed", "keep", "goBack", "told", "fault", "house", "feed"};
    private static final List<String> EMPTYING = List.of("house", "feed", "tear", "keep", "goBack", "undo");
    private static final String[] OFTEN = {"touch", "came", "met", "leftOut", "washes", "see", "write", "look"};
    private static final int[] WILD = {-2, -3, 61, 100, 101, 255, 256, 1000, -1000000001, Integer.MAX_VALUE, Integer.MIN_VALUE};

    private final Random random;
    private final List<String> calls = new ArrayList<>();
    private final PlainModel model = new PlainModel();
    private final Calls ofModel = new Calls(model);
    private final Calls ofClass = new Calls(new RubbedColours());
    private int colours = 2;
    private int coats;

    private ModelTest(long seed) {
        random = new Random(seed);
    }

    public static void main(String[] args) {
        Check check = new Check("ModelTest");
        int wrong = 0;
        for (int run = 0; run < RUNS && wrong < 3; run++) {
            ModelTest test = new ModelTest(run);
            String fault = test.run();
            if (fault != null) {
                wrong++;
                System.out.println("run " + run + ": " + fault);
            }
            check.due("run " + run, fault == null ? 1 : 0, 1);
        }
        check.end();
    }

    /** Null, or what went wrong last. */
    private String run() {
        String fault = random.nextInt(10) == 0 ? someCalls() : null;
        // a text has up to 250 letters, and two calls come behind it
        while (fault == null && calls.size() < CALLS - 252) {
            fault = moveIn(random.nextInt(5) == 0 ? brokenText() : goodText());
            fault = fault == null ? someCalls() : fault;
        }
        return fault;
    }

    private String someCalls() {
        String fault = null;
        // one of them makes up to twelve
        for (int n = random.nextInt(250); n > 0 && fault == null && calls.size() < CALLS - 12; n--) {
            fault = anyCall();
        }
        return fault;
    }

    private String moveIn(String text) {
        String fault = null;
        for (int i = 0; i < text.length() && fault == null; i++) {
            fault = call("feed", text.charAt(i));
        }
        fault = fault == null ? call("house") : fault;
        fault = fault == null ? call("fault") : fault;
        colours = Math.max(1, model.told(0));
        coats = model.told(2);
        return fault;
    }

    private String anyCall() {
        String name = NAMES[random.nextInt(NAMES.length)];
        // calls that empty something come seldom, or nothing would ever fill up
        if (EMPTYING.contains(name) && random.nextInt(name.equals("house") ? 80 : 8) > 0) {
            name = OFTEN[random.nextInt(OFTEN.length)];
        }
        int a = coat();
        int b = coat();
        int c = colour();
        switch (name) {
            case "parts": case "own": case "gives": return call(name, a, c);
            case "planned": return call(name, number(11));
            case "touch": return call(name, a, b);
            case "glove": return call(name, a, random.nextInt(3) == 0 ? 1 : 0);
            case "wash": return call(name, a);
            case "drift": return call(name, random.nextInt(4) == 0 ? number(101) : 1 + random.nextInt(6));
            case "shows": return call(name, a, c, number(11));
            case "alike": return call(name, a, b);
            case "trail": return call(name, c, a, number(2));
            case "came": return came(a, c);
            case "met": return met(c);
            case "leftOut": return call(name, a, c, amount(a, c), number(2));
            case "washes": return call(name, c, amount(a, c));
            case "rest": return call(name, random.nextBoolean() ? -1 : a, c);
            case "rain": return call(name, c, amount(a, c), number(101));
            case "blend": return call(name, random.nextInt(12) == 0 ? wild() : random.nextInt(1 << coats), c);
            case "see": return call(name, a, c, endAmount(a, c));
            case "write": return call(name, a, c, amount(a, c));
            case "seed": return call(name, random.nextBoolean() ? wild() : random.nextInt(Integer.MAX_VALUE));
            case "keep": case "goBack": return call(name, random.nextInt(8) == 0 ? wild() : random.nextInt(2));
            case "told": return call(name, number(12));
            case "feed": return call(name, random.nextInt(8) == 0 ? wild() : 32);
            default: return call(name);
        }
    }

    /** Asks for what a few touches bring about, so that it is often found. */
    private String came(int a, int c) {
        int d = colour();
        int[] aim = {random.nextInt(61), random.nextInt(61)};
        int touches = random.nextInt(5);
        if (coats > 1 && model.parts(a, c) >= 0 && model.parts(a, d) >= 0) {
            String fault = null;
            int done = 0;
            for (; done < touches && fault == null; done++) {
                fault = call("touch", random.nextInt(coats), random.nextInt(coats));
            }
            aim = new int[] {model.parts(a, c), model.parts(a, d)};
            for (; done > 0 && fault == null && model.told(11) > 0; done--) {
                fault = call("undo");
            }
            if (fault != null) {
                return fault;
            }
        }
        int v = random.nextInt(12) == 0 ? wild() : aim[0];
        int u = random.nextInt(12) == 0 ? wild() : aim[1];
        return call("came", a, c, v, d, u, random.nextInt(8) == 0 ? wild() : random.nextInt(7) - 3);
    }

    private String met(int c) {
        int a = coat();
        int b = coat();
        String fault = call("touch", a, b);
        int v = amount(a, c);
        int u = amount(b, c);
        fault = fault == null ? call("undo") : fault;
        return fault == null ? call("met", c, v, u, number(2)) : fault;
    }

    private int amount(int a, int c) {
        int v = random.nextInt(3) > 0 ? model.parts(a, c) : random.nextInt(62) - 1;
        return v < -1 ? random.nextInt(61) : v;
    }

    private int endAmount(int a, int c) {
        int v = random.nextInt(4) > 0 ? model.shows(a, c, model.told(3)) : random.nextInt(62) - 1;
        return v < -1 ? random.nextInt(61) : v;
    }

    private int coat() {
        return random.nextInt(25) == 0 ? wild() : random.nextInt(20) == 0 ? coats : random.nextInt(Math.max(1, coats));
    }

    private int colour() {
        return random.nextInt(25) == 0 ? wild() : random.nextInt(20) == 0 ? colours : random.nextInt(colours);
    }

    private int number(int beyond) {
        return random.nextInt(20) == 0 ? wild() : random.nextInt(beyond + 1);
    }

    private int wild() {
        return random.nextInt(5) == 0 ? -1 : WILD[random.nextInt(WILD.length)];
    }

    private String call(String name, int... args) {
        StringBuilder told = new StringBuilder(name).append("(");
        for (int arg : args) {
            told.append(told.length() > name.length() + 1 ? ", " : "").append(arg);
        }
        calls.add(told.append(")").toString());
        int due = ofModel.answer(name, args);
        int got = ofClass.answer(name, args);
        return got == due ? null : told + " answered " + got + ", the model has " + due + "\n  behind " + calls;
    }

    // ---- texts

    private String goodText() {
        int n = 2 + random.nextInt(4);
        int k = random.nextInt(3) == 0 ? 30 : 1 + random.nextInt(30);
        StringBuilder text = new StringBuilder("c" + n + " " + k + ";");
        int many = random.nextInt(10) == 0 ? random.nextInt(2) : 2 + random.nextInt(5);
        for (int a = 0; a < many; a++) {
            text.append("p").append(coatText(n)).append(";");
        }
        List<String> rest = new ArrayList<>();
        for (int a = 0; a < many; a++) {
            int mark = random.nextInt(8);
            if (mark < 2) {
                rest.add((mark == 0 ? "g" : "h") + a + ";");
            }
        }
        if (many > 1 && random.nextInt(8) > 0) {
            rest.add(random.nextInt(rest.size() + 1), dayText(many));
        }
        for (String clause : rest) {
            text.append(clause);
        }
        return text.toString();
    }

    private String coatText(int n) {
        int[] parts = new int[n];
        if (random.nextInt(3) > 0) {
            parts[random.nextInt(n)] = 60;
        } else {
            for (int left = 60; left > 0;) {
                int some = Math.min(left, 1 + random.nextInt(25));
                parts[random.nextInt(n)] += some;
                left -= some;
            }
        }
        StringBuilder text = new StringBuilder();
        for (int p : parts) {
            text.append(text.length() > 0 ? "," : "").append(p);
        }
        return text.toString();
    }

    private String dayText(int many) {
        StringBuilder text = new StringBuilder("t");
        int touches = random.nextInt(4) == 0 ? 10 : 1 + random.nextInt(10);
        for (int t = 0; t < touches; t++) {
            int a = random.nextInt(many);
            int b = (a + 1 + random.nextInt(many - 1)) % many;
            text.append(t > 0 ? "," : "").append(a).append(" ").append(b);
        }
        return text.append(";").toString();
    }

    private String brokenText() {
        StringBuilder text = new StringBuilder(goodText());
        String letters = "cpgthx;,0123456789  ;,";
        for (int n = 1 + random.nextInt(3); n > 0; n--) {
            int at = random.nextInt(text.length() + 1);
            char letter = letters.charAt(random.nextInt(letters.length()));
            switch (random.nextInt(6)) {
                case 0: text.insert(at, letter); break;
                case 1: text.setLength(at); break;
                case 2: text.insert(at, "  "); break;
                case 3: text.append(goodText().substring(random.nextInt(5))); break;
                case 4: if (at < text.length()) { text.deleteCharAt(at); } break;
                default: if (at < text.length()) { text.setCharAt(at, letter); } break;
            }
        }
        return text.length() > 250 ? text.substring(0, 250) : text.toString();
    }
}
