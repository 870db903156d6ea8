import java.io.IOException;
import java.nio.file.Files;
import java.nio.file.Path;
import java.util.ArrayList;
import java.util.LinkedHashMap;
import java.util.LinkedHashSet;
import java.util.List;
import java.util.Map;
import java.util.Set;

/**
 * Tests that each bear one sentence of ../shared/DOC.md. The sentences are read from the document, so that a test whose
 * sentence does not stand there fails, and so does a sentence that no test bears.
 */
final class Sentence {
    /** The section "Terms" ahead of the promises. */
    static final int TERMS = 0;

    // The headings of paragraphs in "Terms" end as sentences do.
    private static final Set<String> HEADINGS = Set.of("Points.", "Tree.", "Rotations.", "Windows.", "Commands.",
            "Rejections.", "Changes.", "Exceptions.", "Further rules.");

    private static final Map<Integer, Set<String>> DOCUMENT = new LinkedHashMap<>();
    private static final Set<String> TESTED = new LinkedHashSet<>();

    private Sentence() {
    }

    static void of(int promise, String sentence, Runnable test) {
        Check.sentence(promise, sentence);
        Check.due("the sentence stands in the document", document(promise).contains(sentence), true);
        int before = Check.count();
        try {
            test.run();
        } catch (RuntimeException e) {
            Check.due("the test itself, thrown at " + e.getStackTrace()[0], e, "no exception");
        }
        Check.due("the test looks at something", Check.count() > before, true);
        TESTED.add(promise + " " + sentence);
    }

    /** Every sentence of the document is borne by a test. */
    static void allAreTested() {
        for (int promise = TERMS; promise <= 60; promise++) {
            for (String sentence : document(promise)) {
                Check.sentence(promise, sentence);
                boolean tested = TESTED.contains(promise + " " + sentence);
                Check.due("a test bears this sentence", tested || HEADINGS.contains(sentence), true);
            }
        }
    }

    // ---- the document

    private static Set<String> document(int promise) {
        if (DOCUMENT.isEmpty()) {
            readDocument();
        }
        return DOCUMENT.getOrDefault(promise, Set.of());
    }

    private static void readDocument() {
        String[] sections;
        try {
            sections = Files.readString(Path.of("../shared/DOC.md")).split("(?m)^## ");
        } catch (IOException e) {
            throw new IllegalStateException(e);
        }
        for (String section : sections) {
            String head = section.lines().findFirst().orElse("");
            String body = section.substring(head.length());
            if (head.equals("Terms")) {
                DOCUMENT.put(TERMS, sentences(body));
            } else if (head.startsWith("Promise ")) {
                DOCUMENT.put(Integer.parseInt(head.substring(8, head.indexOf(':'))), sentences(body));
            }
        }
    }

    private static Set<String> sentences(String body) {
        Set<String> sentences = new LinkedHashSet<>();
        for (String paragraph : body.strip().split("\n\\s*\n")) {
            if (!paragraph.startsWith("Ahead of the calls ")) {
                sentences.addAll(sentencesOf(paragraph));
            }
        }
        return sentences;
    }

    private static List<String> sentencesOf(String paragraph) {
        List<String> sentences = new ArrayList<>();
        if (paragraph.startsWith("- ")) {
            paragraph.lines().forEach(sentences::add);
            return sentences;
        }
        // A promise begins with the head of its method, which is no sentence.
        String text = paragraph.replaceAll("\\s+", " ").replaceFirst("^`[^`]*\\)[^`]*`: ", "");
        sentences.addAll(List.of(text.split("(?<=\\.) (?=[A-Z\"`])")));
        return sentences;
    }
}
