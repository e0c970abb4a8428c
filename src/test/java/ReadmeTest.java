import java.io.IOException;
import java.lang.reflect.Method;
import java.lang.reflect.Modifier;
import java.nio.file.Files;
import java.nio.file.Path;
import java.util.ArrayList;
import java.util.List;
import java.util.TreeSet;
import java.util.regex.Matcher;
import java.util.regex.Pattern;
import java.util.stream.Stream;

/** What README.md says of the use of the class holds as it stands there, and it names each test. */
public final class ReadmeTest {
    private static final Path README = Path.of("README.md");
    private static final String PROGRAM = "src/main/java/FleetSettings.java";
    private static final String TESTS = "src/test/java";
    private static final List<String> CONSTANTS = List.of("NONE", "MASK", "CLEAR", "OPEN", "HELD", "VOID", "WITHDRAWN");
    private static final Pattern LINE = Pattern.compile("(?:\\w+ (\\w+) = )?(.*?);\\s*(?:// (.*))?");
    private static final Pattern ANSWER = Pattern.compile("(-?\\d+|true|false|[A-Z]+|throws \\w+)(?:: .*)?");

    public static void main(String[] args) throws Exception {
        linesOfUseAnswerAsTheirCommentsSay();
        eachCallIsShown();
        eachTestIsNamed();
        Check.end("ReadmeTest");
    }

    private static List<String> linesOfUse() throws IOException {
        List<String> lines = new ArrayList<>();
        boolean isInside = false;
        for (String line : Files.readAllLines(README)) {
            if (line.startsWith("```")) {
                isInside = line.equals("```java");
            } else if (isInside) {
                lines.add(line);
            }
        }
        return lines;
    }

    /** The lines are put into a class that is compiled together with the file of the program, as README.md says. */
    private static void linesOfUseAnswerAsTheirCommentsSay() throws IOException, InterruptedException {
        StringBuilder source = new StringBuilder("public final class Use {\n");
        for (String name : CONSTANTS) {
            source.append("static final int ").append(name).append(" = FleetSettings.").append(name).append(";\n");
        }
        source.append("public static void main(String[] args) {\n");
        int answers = 0;
        for (String line : linesOfUse()) {
            Matcher parts = LINE.matcher(line);
            Check.due("a line with one call: " + line, true, parts.matches());
            source.append(codeOf(line, parts)).append('\n');
            answers += parts.group(3) == null ? 0 : 1;
        }
        source.append("Check.end(\"Use\");\n}\n}\n");
        Check.due("more than fifty lines with an answer", true, answers > 50);
        Check.due("the lines run", "Use: " + answers + " checks, 0 wrong\n", outputOf(source.toString()));
    }

    /** A line that keeps its answer stays as it is, another one is called within the comparison with its comment. */
    private static String codeOf(String line, Matcher parts) {
        String name = parts.group(1);
        String call = parts.group(2);
        if (parts.group(3) == null) {
            return line;
        }
        Matcher answer = ANSWER.matcher(parts.group(3));
        Check.due("the comment begins with an answer: " + line, true, answer.matches());
        String want = answer.group(1);
        if (want.startsWith("throws ")) {
            return due(call, '"' + want.replace(' ', '.') + '"', "Check.answerOf(() -> { " + call + "; return null; })");
        }
        return name == null ? due(call, want, call) : line + '\n' + due(call, want, name);
    }

    private static String due(String what, String want, String got) {
        return "Check.due(\"" + what + "\", (Object) (" + want + "), (Object) (" + got + "));";
    }

    private static String outputOf(String source) throws IOException, InterruptedException {
        Path here = Path.of("").toAbsolutePath();
        Path folder = Files.createTempDirectory("readme");
        try {
            String file = Files.writeString(folder.resolve("Use.java"), source).toString();
            Command compiled = Command.run(here, "javac", "-sourcepath", TESTS, "-d", folder.toString(), PROGRAM, file);
            Check.due("the lines compile", "", compiled.output);
            return Command.run(here, "java", "-cp", folder.toString(), "Use").output;
        } finally {
            Command.deleteFolder(folder);
        }
    }

    private static void eachCallIsShown() throws IOException {
        String use = String.join("\n", linesOfUse());
        for (Method method : FleetSettings.class.getDeclaredMethods()) {
            if (Modifier.isPublic(method.getModifiers())) {
                Check.due("README.md shows " + method.getName(), true, use.contains("store." + method.getName() + "("));
            }
        }
    }

    private static void eachTestIsNamed() throws IOException {
        TreeSet<String> named = new TreeSet<>();
        Matcher names = Pattern.compile("(?m)^- `(\\w+Test)`: ").matcher(Files.readString(README));
        while (names.find()) {
            named.add(names.group(1) + ".java");
        }
        TreeSet<String> there = new TreeSet<>();
        try (Stream<Path> files = Files.list(Path.of(TESTS))) {
            files.map(file -> file.getFileName().toString()).filter(name -> name.endsWith("Test.java")).forEach(there::add);
        }
        Check.due("the tests that README.md names", there.toString(), named.toString());
    }
}
