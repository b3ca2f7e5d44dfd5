import java.io.IOException;
import java.lang.reflect.Method;
import java.nio.file.Files;
import java.nio.file.Path;
import java.util.HashSet;
import java.util.Set;
import java.util.regex.Matcher;
import java.util.regex.Pattern;

/**
 * Holds the boundary tests against the document itself: what a test quotes stands there, under its promise or in the
 * terms, and no sentence of the terms, the parts and the promises is without a test that quotes it.
 */
public final class DocumentTest {
    private static final Check CHECK = new Check("DocumentTest");
    private static final int PROMISES = 34;
    /** What asks for nothing that a call could show. */
    private static final String[] FREE = {"## Terms", "Words in capitals are told where they come first.", "```text", "```",
        "======== 1", "======== 2", "======== 3"};

    private final String document;
    private final boolean[] quoted;

    private DocumentTest(String text) {
        document = text.replaceAll("\\s+", " ");
        quoted = new boolean[document.length()];
    }

    public static void main(String[] args) throws IOException {
        Path path = Path.of("../shared/DOC.md");
        CHECK.holds(path + " is there", Files.exists(path));
        if (Files.exists(path)) {
            new DocumentTest(Files.readString(path)).compare();
        }
        CHECK.end();
    }

    private void compare() {
        Set<Integer> promises = new HashSet<>();
        Set<String> names = new HashSet<>();
        for (Class<?> owner : Edges.OWNERS) {
            for (Method test : Edges.testsOf(owner)) {
                Edge edge = test.getAnnotation(Edge.class);
                promises.add(edge.promise());
                CHECK.holds(test.getName() + " is the name of one test", names.add(test.getName()));
                CHECK.holds("promise " + edge.promise() + ": \"" + edge.says() + "\" stands in the document", findQuote(edge));
            }
        }
        for (int n = 1; n <= PROMISES; n++) {
            CHECK.holds("promise " + n + " has boundary tests", promises.contains(n));
        }
        markFree();
        tellUnquoted();
    }

    private boolean findQuote(Edge edge) {
        int from = document.indexOf("## Promise " + edge.promise() + ":");
        int to = document.indexOf("## ", from + 3);
        int at = document.indexOf(edge.says(), from);
        if (at < 0 || at + edge.says().length() > to) {
            at = document.lastIndexOf(edge.says(), document.indexOf("## Promise 1:"));
        }
        if (at >= 0) {
            mark(at, at + edge.says().length());
        }
        return at >= 0;
    }

    private void mark(int from, int to) {
        for (int i = from; i < to; i++) {
            quoted[i] = true;
        }
    }

    private void markFree() {
        for (String free : FREE) {
            markAll(Pattern.quote(free));
        }
        markAll("Ahead of the calls [^:]*the interface says: ---- [a-z, ]+\\.");
        markAll("## Promise \\d+: [\\w ]+ `[^`]*`:");
    }

    private void markAll(String pattern) {
        Matcher m = Pattern.compile(pattern).matcher(document);
        while (m.find()) {
            mark(m.start(), m.end());
        }
    }

    private void tellUnquoted() {
        int from = document.indexOf("## Terms");
        int end = document.indexOf("## Not promised");
        CHECK.holds("the document has its parts", from >= 0 && end > from);
        StringBuilder open = new StringBuilder();
        for (int i = Math.max(from, 0); i < end; i++) {
            // a sign keeps apart what two quotes leave between them
            open.append(quoted[i] ? '|' : document.charAt(i));
        }
        for (String words : open.toString().split("\\|+")) {
            CHECK.holds("a test quotes \"" + words.trim() + "\"", words.isBlank());
        }
    }
}
