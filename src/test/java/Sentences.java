import java.io.IOException;
import java.nio.file.Files;
import java.nio.file.Path;
import java.util.HashSet;
import java.util.Set;

/** Holds each test to the sentence of the document that it is for, word by word. */
final class Sentences {
    private static final Path DOCUMENT = Path.of("../shared/DOC.md");

    private final String[] sections;
    private final Set<String> tested = new HashSet<>();
    private String heading = "";
    private String text = "";

    Sentences() throws IOException {
        sections = Files.readString(DOCUMENT).split("\n## ");
    }

    /** The next tests are for sentences below this heading. */
    void section(String words) {
        heading = words;
        text = "";
        for (String each : sections) {
            if (each.startsWith(words + "\n")) {
                text = oneLine(each);
            }
        }
        Check.about("");
        Check.isTrue("the document has the heading " + words, !text.isEmpty());
    }

    void test(String words, Runnable test) {
        Check.about(heading + ", \"" + words + "\"\n    ");
        Check.isTrue("that the document says so", text.contains(words));
        tested.add(heading + words);
        int before = Check.checks();
        try {
            test.run();
        } catch (RuntimeException e) {
            Check.isTrue("that the test comes to its end, without " + e, false);
        }
        Check.isTrue("that the test checks something", Check.checks() > before);
    }

    /** No "Throws .." of the document is left without a test. */
    void end() {
        Check.about("");
        int refusals = 0;
        for (String each : sections) {
            String name = each.substring(0, Math.max(each.indexOf('\n'), 0));
            for (String line : each.split("\n")) {
                if (line.startsWith("Throws ")) {
                    refusals++;
                    Check.isTrue(name + ": a test of \"" + line + "\"", tested.contains(name + line));
                }
            }
        }
        Check.isTrue("the document names refusals", refusals > 0);
    }

    private static String oneLine(String words) {
        return words.replaceAll("\\s+", " ");
    }
}
