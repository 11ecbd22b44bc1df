import java.io.IOException;
import java.nio.file.Files;
import java.nio.file.Path;
import java.util.ArrayList;
import java.util.HashSet;
import java.util.LinkedHashMap;
import java.util.List;
import java.util.Map;
import java.util.Set;

/**
 * The document's sentences under some headings. A test names the sentence that it holds by a part of it: that part must
 * stand in the document, and no sentence may go without a test. Run from the project's root.
 */
final class Sentences {
    private static final Path DOCUMENT = Path.of("../shared/DOC.md");

    private final Checks checks;
    private final Map<String, List<String>> byHeading = new LinkedHashMap<>();
    private final Set<String> seen = new HashSet<>();

    Sentences(Checks checks, String... headings) throws IOException {
        this.checks = checks;
        for (String heading : headings) {
            byHeading.put(heading, new ArrayList<>());
        }
        String heading = "";
        for (String line : Files.readAllLines(DOCUMENT)) {
            if (line.startsWith("#")) {
                heading = line.replaceFirst("#+ ", "");
            } else if (!line.isBlank() && byHeading.containsKey(heading)) {
                byHeading.get(heading).addAll(List.of(line.split("(?<=\\.) (?=[A-Z])")));
            }
        }
    }

    void test(String heading, String part, Runnable test) {
        int wrongBefore = checks.wrong();
        int doneBefore = checks.done();
        mark(heading, part);
        test.run();
        checks.yes("something was asked for: " + part, checks.done() > doneBefore);
        if (checks.wrong() > wrongBefore) {
            System.out.println("  which breaks, of " + heading + ": " + part);
        }
    }

    /** For a sentence that says nothing that a call could be asked for. */
    void isNoPromise(String heading, String part) {
        mark(heading, part);
    }

    private void mark(String heading, String part) {
        boolean isThere = false;
        for (String sentence : byHeading.getOrDefault(heading, List.of())) {
            if (sentence.contains(part)) {
                isThere = true;
                seen.add(heading + sentence);
            }
        }
        checks.yes("the document says under " + heading + ": " + part, isThere);
    }

    void allHaveTests() {
        byHeading.forEach((heading, sentences) -> {
            checks.yes("the document has the heading " + heading, !sentences.isEmpty());
            for (String sentence : sentences) {
                boolean isSignature = sentence.startsWith("`") && sentences.size() > 1;
                checks.yes("a test for, of " + heading + ": " + sentence,
                        isSignature || seen.contains(heading + sentence));
            }
        });
    }
}
