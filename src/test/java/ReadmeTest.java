import java.io.IOException;
import java.lang.reflect.Method;
import java.lang.reflect.Modifier;
import java.net.URL;
import java.net.URLClassLoader;
import java.nio.file.Files;
import java.nio.file.Path;
import java.util.ArrayList;
import java.util.List;
import java.util.regex.Matcher;
import java.util.regex.Pattern;
import java.util.stream.Stream;
import javax.tools.ToolProvider;

/** What README.md shows of the use answers as it says there, and its way to test runs every test. */
public final class ReadmeTest {
    private static final Path README = Path.of("README.md");
    private static final Path TESTS = Path.of("src", "test", "java");
    private static final Path WAY_TO_TEST = Path.of(".ci", "run");

    /** A call, with a name for its answer or without; what it answers, up to a colon or the end. */
    private static final Pattern SHOWN =
            Pattern.compile("(?:int (\\w+) = )?(x\\..*\\));\\s+// (-?\\d+|true|false|throws \\w+)(?::.*)?");

    public static void main(String[] args) throws Exception {
        String text = Files.readString(README);
        List<String> use = block(text, "java");
        everyMethodIsShown(use);
        everyCallAnswersAsShown(use);
        theWayToTestRunsAll(text);
        Check.end();
    }

    private static List<String> block(String text, String language) {
        String opening = "```" + language + "\n";
        int begin = text.indexOf(opening);
        int end = text.indexOf("\n```", begin + opening.length());
        Check.yes("README.md has a block of " + language, begin >= 0 && end > begin);
        return begin < 0 || end < begin
                ? List.of() : text.substring(begin + opening.length(), end).lines().toList();
    }

    private static void everyMethodIsShown(List<String> use) {
        for (Method method : CrossRounds.class.getDeclaredMethods()) {
            if (Modifier.isPublic(method.getModifiers())) {
                String call = "x." + method.getName() + "(";
                Check.yes("README.md shows " + call, use.stream().anyMatch(line -> line.contains(call)));
            }
        }
    }

    private static void everyCallAnswersAsShown(List<String> use) throws Exception {
        List<String> calls = new ArrayList<>();
        List<String> due = new ArrayList<>();
        List<String> program = new ArrayList<>();
        program.add("public final class ReadmeUse { public static void hear(java.util.List<String> heard) {");
        for (String line : use) {
            Matcher shown = SHOWN.matcher(line);
            if (shown.matches()) {
                calls.add(shown.group(2));
                due.add(shown.group(3));
                program.add(asHeard(shown.group(1), shown.group(2)));
            } else {
                Check.yes("README.md tells the answer of: " + line, answersNothing(line));
                program.add(line);
            }
        }
        program.add("} }");
        List<String> heard = heardFrom(String.join("\n", program));
        Check.same("calls that README.md shows", due.size(), heard.size());
        for (int i = 0; i < heard.size(); i++) {
            Check.same("README.md: " + calls.get(i), due.get(i), heard.get(i));
        }
    }

    private static boolean answersNothing(String line) {
        return line.isBlank() || line.startsWith("//")
                || line.equals("CrossRounds x = new CrossRounds();") || line.equals("x.clear();");
    }

    /** A call whose answer has a name stands as it is, so that later lines can use the name. */
    private static String asHeard(String name, String call) {
        if (name != null) {
            return "int " + name + " = " + call + "; heard.add(\"\" + " + name + ");";
        }
        return "try { heard.add(\"\" + " + call + "); }"
                + " catch (RuntimeException e) { heard.add(\"throws \" + e.getClass().getSimpleName()); }";
    }

    private static List<String> heardFrom(String program) throws Exception {
        Path room = Files.createTempDirectory("readme");
        try {
            Path file = room.resolve("ReadmeUse.java");
            Files.writeString(file, program);
            String classes = System.getProperty("java.class.path");
            int faults = ToolProvider.getSystemJavaCompiler()
                    .run(null, null, null, "-cp", classes, "-d", room.toString(), file.toString());
            Check.same("javac over what README.md shows", 0, faults);
            return faults == 0 ? runIn(room) : List.of();
        } finally {
            removeAll(room);
        }
    }

    private static List<String> runIn(Path room) throws Exception {
        List<String> heard = new ArrayList<>();
        try (URLClassLoader loader = new URLClassLoader(new URL[] {room.toUri().toURL()})) {
            loader.loadClass("ReadmeUse").getMethod("hear", List.class).invoke(null, heard);
        }
        return heard;
    }

    private static void removeAll(Path room) throws IOException {
        for (Path each : filesIn(room)) {
            Files.delete(each);
        }
        Files.delete(room);
    }

    private static void theWayToTestRunsAll(String text) throws IOException {
        Check.same("README.md's way to test", ".ci/run", String.join("\n", block(text, "sh")));
        Check.yes(".ci/run can be run", Files.isExecutable(WAY_TO_TEST));
        for (Path file : filesIn(TESTS)) {
            String name = file.getFileName().toString().replace(".java", "");
            boolean hasMain = Files.readString(file).contains("static void main(");
            Check.yes(name + " ends in Test if it is one, and only then", hasMain == name.endsWith("Test"));
            Check.yes("README.md names " + name, !hasMain || text.contains("`" + name + "`"));
        }
    }

    private static List<Path> filesIn(Path directory) throws IOException {
        try (Stream<Path> files = Files.list(directory)) {
            return files.toList();
        }
    }
}
