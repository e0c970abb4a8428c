import java.io.IOException;
import java.nio.file.Files;
import java.nio.file.Path;
import java.util.LinkedHashSet;
import java.util.List;
import java.util.Set;
import java.util.regex.Matcher;
import java.util.regex.Pattern;

/** Tests that bear the names of a chapter of the document and of a sentence in it. */
final class Sentences {
    private static final Path DOCUMENT = Path.of("../shared/DOC.md");
    private static final Pattern DECLARATION = Pattern.compile("`[^`]*\\(.*\\)[^`]*`: (.*)");
    /** Outlooks, a headline, and the comments of the interface: they promise nothing of their own. */
    private static final List<String> NOT_PROMISES = List.of("A store of settings for a fleet",
            "What is due, and what runs", "The calls make groups", "Ahead of the calls");

    private static final Set<String> TESTED = new LinkedHashSet<>();
    private static String chapter = "";

    private Sentences() {
    }

    static void chapter(String name) {
        chapter = name;
    }

    static void says(String sentence, Runnable test) {
        String name = chapter + ": " + sentence;
        Check.about(name);
        int before = Check.checks();
        test.run();
        Check.due("the test checks something", true, Check.checks() > before);
        Check.due("it is the only test of this name", true, TESTED.add(name));
        Check.about("");
    }

    /** Each sentence that promises something has a test, and each test a sentence. */
    static void compareWithDocument() throws IOException {
        Set<String> inDocument = sentencesOfDocument();
        for (String sentence : inDocument) {
            Check.due("a test for: " + sentence, true, TESTED.contains(sentence));
        }
        for (String sentence : TESTED) {
            Check.due("the document says: " + sentence, true, inDocument.contains(sentence));
        }
        Check.due("sentences", true, inDocument.size() > 150);
    }

    private static Set<String> sentencesOfDocument() throws IOException {
        Set<String> sentences = new LinkedHashSet<>();
        String heading = "";
        boolean isPromised = false;
        for (String line : Files.readAllLines(DOCUMENT)) {
            if (line.startsWith("#")) {
                heading = line.replaceFirst("^#+ ", "");
                isPromised = line.startsWith("## ") ? isPromisePart(heading) : isPromised;
            } else if (isPromised) {
                addSentences(sentences, heading, line.replaceFirst("^- ", ""));
            }
        }
        return sentences;
    }

    private static boolean isPromisePart(String heading) {
        return heading.equals("What it is") || heading.equals("Terms") || heading.startsWith("Promise ");
    }

    private static void addSentences(Set<String> sentences, String heading, String line) {
        for (String part : line.split("(?<=[.)])\\s+(?=[A-Z(])")) {
            Matcher declaration = DECLARATION.matcher(part);
            String sentence = declaration.matches() ? declaration.group(1) : part;
            if (!sentence.isEmpty() && NOT_PROMISES.stream().noneMatch(sentence::startsWith)) {
                sentences.add(heading + ": " + sentence);
            }
        }
    }
}
