import java.io.File;
import java.io.IOException;
import java.lang.reflect.Method;
import java.lang.reflect.Modifier;
import java.net.URL;
import java.net.URLClassLoader;
import java.nio.file.Files;
import java.nio.file.Path;
import java.util.ArrayList;
import java.util.List;
import java.util.TreeSet;
import java.util.function.BiConsumer;
import java.util.regex.Matcher;
import java.util.regex.Pattern;
import java.util.stream.Stream;
import javax.tools.JavaCompiler;
import javax.tools.ToolProvider;

/** All promises: what README.md tells of the use of the class and of its tests is done as written there. */
public final class ReadmeTest {
    private static final Check CHECK = new Check("ReadmeTest");
    private static final String RUN_ALL = ".ci/run";
    /** A call with its answer: a number, or the name of a constant. */
    private static final Pattern ANSWERED = Pattern.compile("\\s*((\\w+)\\.(\\w+)\\(.*\\));\\s+// (-?\\d+|[A-Z]+)(:.*)?");
    /** A call by itself that tells no answer: every one but those of a loop has to. */
    private static final Pattern UNANSWERED = Pattern.compile("\\w+\\.\\w+\\(.*\\);.*");

    public static void main(String[] args) throws Exception {
        String page = Files.readString(Path.of("README.md"));
        Path room = Files.createTempDirectory("readme");
        try {
            use(blocks(page, "java"), room);
            commands(blocks(page, "sh"), room);
            tests(page);
        } finally {
            remove(room);
        }
        CHECK.end();
    }

    private static List<String> blocks(String page, String kind) {
        List<String> found = new ArrayList<>();
        Matcher m = Pattern.compile("(?ms)^```" + kind + "\\n(.*?)^```$").matcher(page);
        while (m.find()) {
            found.add(m.group(1));
        }
        CHECK.holds("README.md has blocks of " + kind, !found.isEmpty());
        return found;
    }

    // ---- the use

    private static void use(List<String> blocks, Path room) throws Exception {
        TreeSet<String> shown = new TreeSet<>();
        StringBuilder body = new StringBuilder();
        for (String line : String.join("", blocks).split("\n")) {
            Matcher m = ANSWERED.matcher(line);
            if (m.matches()) {
                shown.add(m.group(3));
                body.append(asked(m.group(1), m.group(4)));
            } else {
                CHECK.holds("\"" + line + "\" tells its answer", !UNANSWERED.matcher(line).matches());
                body.append(line).append('\n');
            }
        }
        for (Method face : RubbedColours.class.getDeclaredMethods()) {
            if (Modifier.isPublic(face.getModifiers())) {
                CHECK.holds("README.md shows " + face.getName() + " with its answer", shown.contains(face.getName()));
            }
        }
        run(body.toString(), room);
    }

    private static String asked(String call, String answer) {
        String due = Character.isLetter(answer.charAt(0)) ? "RubbedColours." + answer : answer;
        return "due.accept(\"" + call.replace("\"", "\\\"") + "\", new long[] {" + call + ", " + due + "});\n";
    }

    private static void run(String body, Path room) throws Exception {
        Path source = room.resolve("ReadmeUse.java");
        Files.writeString(source, "public final class ReadmeUse {\n"
            + "public static void use(java.util.function.BiConsumer<String, long[]> due) {\n" + body + "}\n}\n");
        JavaCompiler javac = ToolProvider.getSystemJavaCompiler();
        int answer = javac.run(null, null, null, "-cp", System.getProperty("java.class.path"), "-d", room.toString(), source.toString());
        CHECK.due("compiling the blocks of README.md", answer, 0);
        if (answer == 0) {
            BiConsumer<String, long[]> due = (call, both) -> CHECK.due("README.md: " + call, both[0], both[1]);
            try (URLClassLoader loader = new URLClassLoader(new URL[] {room.toUri().toURL()})) {
                loader.loadClass("ReadmeUse").getMethod("use", BiConsumer.class).invoke(null, due);
            }
        }
    }

    // ---- the commands

    /** They run in a copy, so that this directory stays as it is. */
    private static void commands(List<String> blocks, Path room) throws Exception {
        Path copy = Files.createDirectories(room.resolve("main"));
        copyTree(Path.of("src"), copy.resolve("src"));
        copyTree(Path.of("../shared/tests"), room.resolve("shared/tests"));
        boolean isAllTold = false;
        for (String block : blocks) {
            if (block.trim().equals(RUN_ALL)) {
                // this test is run by it: to run it here would never end
                isAllTold = Files.isExecutable(Path.of(RUN_ALL));
            } else {
                CHECK.due("README.md: " + block.trim().replace("\n", "; "), exitOf(block, copy), 0);
            }
        }
        CHECK.holds("README.md tells " + RUN_ALL + ", and it can be run", isAllTold);
    }

    private static int exitOf(String block, Path directory) throws Exception {
        File output = directory.resolve("output").toFile();
        int exit = new ProcessBuilder("sh", "-e", "-c", block).directory(directory.toFile())
            .redirectErrorStream(true).redirectOutput(output).start().waitFor();
        if (exit != 0) {
            System.out.println(Files.readString(output.toPath()));
        }
        return exit;
    }

    private static void copyTree(Path from, Path to) throws IOException {
        try (Stream<Path> all = Files.walk(from)) {
            for (Path path : all.toList()) {
                Path target = to.resolve(from.relativize(path).toString());
                if (Files.isDirectory(path)) {
                    Files.createDirectories(target);
                } else {
                    // not Files.copy: it would take over that the file cannot be written
                    Files.write(target, Files.readAllBytes(path));
                }
            }
        }
    }

    private static void remove(Path room) throws IOException {
        try (Stream<Path> all = Files.walk(room)) {
            for (Path path : all.sorted((p, q) -> q.compareTo(p)).toList()) {
                Files.delete(path);
            }
        }
    }

    // ---- the table of tests

    private static void tests(String page) throws IOException {
        TreeSet<String> told = new TreeSet<>();
        Matcher m = Pattern.compile("(?m)^\\| `(\\w+)` \\|").matcher(page);
        while (m.find()) {
            told.add(m.group(1));
        }
        TreeSet<String> there = new TreeSet<>();
        try (Stream<Path> all = Files.list(Path.of("src/test/java"))) {
            all.map(path -> path.getFileName().toString()).filter(name -> name.endsWith("Test.java"))
                .forEach(name -> there.add(name.substring(0, name.length() - ".java".length())));
        }
        CHECK.holds("README.md tells of every test: " + told + " for " + there, told.equals(there));
    }
}
