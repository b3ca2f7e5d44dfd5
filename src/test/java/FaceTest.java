import java.io.IOException;
import java.lang.reflect.Field;
import java.lang.reflect.Member;
import java.lang.reflect.Method;
import java.lang.reflect.Modifier;
import java.nio.file.Files;
import java.nio.file.Path;
import java.util.ArrayList;
import java.util.Arrays;
import java.util.List;
import java.util.TreeSet;
import java.util.regex.Matcher;
import java.util.regex.Pattern;

/** The public face of the document, and those rules of LANGUAGE.md that can be seen from outside. */
public final class FaceTest {
    private static final Check CHECK = new Check("FaceTest");
    private static final String FACE = "feed(int) house() fault() told(int) parts(int,int) own(int,int) gives(int,int) planned(int) "
        + "touch(int,int) glove(int,boolean) wash(int) day() drift(int) undo() shows(int,int,int) alike(int,int) trail(int,int,int) "
        + "came(int,int,int,int,int,int) met(int,int,int,int) leftOut(int,int,int,int) washes(int,int) rest(int,int) "
        + "rain(int,int,int) blend(int,int) see(int,int,int) gap() look() write(int,int,int) tear() judge() seed(int) keep(int) "
        + "goBack(int)";

    public static void main(String[] args) throws IOException {
        members();
        constants();
        classesInside();
        String source = Files.readString(Path.of(args.length > 0 ? args[0] : "src/main/java/RubbedColours.java"));
        words(source);
        lengths(source);
        CHECK.end();
    }

    private static void members() {
        TreeSet<String> open = new TreeSet<>();
        TreeSet<String> names = new TreeSet<>();
        for (Method m : RubbedColours.class.getDeclaredMethods()) {
            if (!Modifier.isPrivate(m.getModifiers())) {
                CHECK.holds(m + " is public, answers int", Modifier.isPublic(m.getModifiers()) && m.getReturnType() == int.class);
                CHECK.holds(m + " is the object's", !Modifier.isStatic(m.getModifiers()));
                open.add(told(m));
                names.add(m.getName());
            }
        }
        CHECK.holds("the methods are the document's: " + open, open.equals(new TreeSet<>(Arrays.asList(FACE.split(" ")))));
        for (Method m : RubbedColours.class.getDeclaredMethods()) {
            CHECK.holds(m + " bears no public name", Modifier.isPublic(m.getModifiers()) || !names.contains(m.getName()));
        }
        CHECK.holds("public and final", Modifier.isPublic(RubbedColours.class.getModifiers()) && Modifier.isFinal(RubbedColours.class.getModifiers()));
        CHECK.due("constructors", RubbedColours.class.getDeclaredConstructors().length, 1);
        CHECK.due("public constructors", RubbedColours.class.getConstructors().length, 1);
    }

    private static String told(Method m) {
        List<String> types = new ArrayList<>();
        for (Class<?> type : m.getParameterTypes()) {
            types.add(type.getName());
        }
        return m.getName() + "(" + String.join(",", types) + ")";
    }

    private static void constants() {
        CHECK.due("NONE", RubbedColours.NONE, -1);
        CHECK.due("UNKNOWN", RubbedColours.UNKNOWN, -1000000001);
        CHECK.due("OUTSIDE", RubbedColours.OUTSIDE, -1000000002);
        CHECK.due("NOT", RubbedColours.NOT, -1000000003);
        CHECK.due("FULL", RubbedColours.FULL, -1000000004);
        TreeSet<String> open = new TreeSet<>();
        for (Field f : RubbedColours.class.getDeclaredFields()) {
            if (!Modifier.isPrivate(f.getModifiers())) {
                open.add(f.getName());
            }
        }
        CHECK.holds("no other field is open: " + open, open.equals(new TreeSet<>(List.of("NONE", "UNKNOWN", "OUTSIDE", "NOT", "FULL"))));
    }

    private static void classesInside() {
        List<Class<?>> all = new ArrayList<>(List.of(RubbedColours.class.getDeclaredClasses()));
        CHECK.holds("twelve classes at most", all.size() < 12);
        for (Class<?> inside : all) {
            int m = inside.getModifiers();
            CHECK.holds(inside + " is static, not public", Modifier.isStatic(m) && !Modifier.isPublic(m) && !Modifier.isProtected(m));
        }
        all.add(RubbedColours.class);
        for (Class<?> type : all) {
            int own = 0;
            for (Field f : type.getDeclaredFields()) {
                boolean isStatic = Modifier.isStatic(f.getModifiers());
                own += isStatic ? 0 : 1;
                CHECK.holds(f + ": static fields are final", !isStatic || Modifier.isFinal(f.getModifiers()));
            }
            CHECK.holds(type + " has twenty fields at most", own <= 20);
            for (Method m : type.getDeclaredMethods()) {
                CHECK.holds(m + " has seven parameters at most", m.getParameterCount() <= 7);
                CHECK.holds(m + " was written, not made", !((Member) m).isSynthetic());
            }
        }
    }

    private static void words(String source) {
        String code = source.replaceAll("(?s)/\\*.*?\\*/", "").replaceAll("//[^\n]*", "");
        String[] never = {"throw", "throws", "try", "catch", "finally", "synchronized", "assert", "import", "package",
            "instanceof", "var", "equals", "hashCode", "toString"};
        for (String word : never) {
            CHECK.holds("no '" + word + "'", !Pattern.compile("\\b" + word + "\\b").matcher(code).find());
        }
        CHECK.holds("no arrow", !code.contains("->"));
        CHECK.holds("no method reference", !code.contains("::"));
        CHECK.holds("no static block", !Pattern.compile("static\\s*\\{").matcher(code).find());
        CHECK.holds("the library is System.arraycopy, Math.max, Math.min and Integer.bitCount alone", onlyKnown(code));
    }

    private static boolean onlyKnown(String code) {
        Matcher m = Pattern.compile("\\b(System|Math|Integer|Long|Arrays|String|StringBuilder|List|ArrayList)\\b(\\.\\w+)?").matcher(code);
        while (m.find()) {
            if (!List.of("System.arraycopy", "Math.max", "Math.min", "Integer.bitCount").contains(m.group())) {
                System.out.println("found: " + m.group());
                return false;
            }
        }
        return true;
    }

    /** A method begins at a line that ends with ") {" at the indent of members, and ends with the brace there. */
    private static void lengths(String source) {
        String[] lines = source.split("\n");
        for (int i = 0; i < lines.length; i++) {
            Matcher m = Pattern.compile("^( {4}| {8})\\S.*\\) \\{$").matcher(lines[i]);
            if (m.find() && !lines[i].contains(" for (") && !lines[i].contains(" if (")) {
                int end = i;
                while (end < lines.length && !lines[end].equals(m.group(1) + "}")) {
                    end++;
                }
                CHECK.holds(lines[i].trim() + " is short", end - i < 60);
            }
        }
    }
}
