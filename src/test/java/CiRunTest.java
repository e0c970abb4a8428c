import java.io.IOException;
import java.nio.file.Files;
import java.nio.file.Path;
import java.nio.file.StandardCopyOption;
import java.util.regex.Matcher;
import java.util.regex.Pattern;

/** What README.md says of running the tests holds: its command, on small projects of which all but one have a fault. */
public final class CiRunTest {
    private static final String PROGRAM = "main/src/main/java/FleetSettings.java";
    private static final String OWN = "main/src/test/java/OwnTest.java";
    private static final String OTHER = "main/src/test/java/OtherTest.java";
    private static final String SHARED = "shared/tests/SharedRuns.java";

    private final String what;
    private final Path folder;

    private CiRunTest(String what) throws IOException {
        this.what = what;
        this.folder = Files.createTempDirectory("cirun");
        Path script = folder.resolve("main/.ci/run");
        Files.createDirectories(script.getParent());
        Files.copy(Path.of(".ci/run"), script, StandardCopyOption.COPY_ATTRIBUTES);
        write(PROGRAM, "public final class FleetSettings { int one() { return 1; } }");
        write("main/src/test/java/Helper.java", "final class Helper { static int one() { return 1; } }");
        write(OWN, test("OwnTest", "Helper.one() - 1"));
        write(OTHER, test("OtherTest", "0"));
        write(SHARED, test("SharedRuns", "0"));
    }

    public static void main(String[] args) throws IOException, InterruptedException {
        new CiRunTest("no fault").ends(true, "passed", OWN, "passed", OTHER, "passed", SHARED);
        new CiRunTest("a test of the project ends with 1").write(OWN, test("OwnTest", "1"))
                .ends(false, "FAILED", OWN, "passed", OTHER, "passed", SHARED);
        new CiRunTest("a shared test ends with 1").write(SHARED, test("SharedRuns", "1"))
                .ends(false, "passed", OWN, "passed", OTHER, "FAILED", SHARED);
        new CiRunTest("a test throws").write(OTHER, test("OtherTest", "1 / (new FleetSettings().one() - 1)"))
                .ends(false, "passed", OWN, "FAILED", OTHER, "passed", SHARED);
        new CiRunTest("a shared test does not compile").write(SHARED, test("SharedRuns", "no"))
                .ends(false, "passed", OWN, "passed", OTHER, "FAILED", SHARED);
        new CiRunTest("a warning").write(PROGRAM, "public final class FleetSettings { int one() { return (int) 1; } }")
                .ends(false, "passed", OWN, "passed", OTHER, "passed", SHARED);
        new CiRunTest("no test of the project").remove(OWN).remove(OTHER).ends(false, "passed", SHARED);
        new CiRunTest("no shared test").remove(SHARED).ends(false, "passed", OWN, "passed", OTHER);
        Check.end("CiRunTest");
    }

    private static String test(String name, String exitCode) {
        return "public final class " + name + " { public static void main(String[] args) {"
                + " new FleetSettings(); System.exit(" + exitCode + "); } }";
    }

    private CiRunTest write(String path, String text) throws IOException {
        Path file = folder.resolve(path);
        Files.createDirectories(file.getParent());
        Files.writeString(file, text);
        return this;
    }

    private CiRunTest remove(String path) throws IOException {
        Files.delete(folder.resolve(path));
        return this;
    }

    /** Runs the command of README.md, and looks for what it tells of each test. */
    private void ends(boolean isGood, String... told) throws IOException, InterruptedException {
        Command run = Command.run(folder.resolve("main"), "sh", "-c", commandOfReadme());
        Check.due(what + ": ends without a fault", isGood, run.exitCode == 0);
        for (int test = 0; test < told.length; test += 2) {
            String line = told[test] + ": " + told[test + 1].replaceFirst("^main/", "").replaceFirst("^shared/", "../shared/");
            Check.due(what + ": tells " + line, true, run.output.lines().anyMatch(line::equals));
        }
        Command.deleteFolder(folder);
    }

    private static String commandOfReadme() throws IOException {
        Matcher block = Pattern.compile("```sh\n(.*)\n```").matcher(Files.readString(Path.of("README.md")));
        return block.find() ? block.group(1) : "README.md has no command";
    }
}
