import java.io.IOException;
import java.lang.reflect.InvocationTargetException;
import java.lang.reflect.Method;
import java.nio.file.Files;
import java.nio.file.Path;
import java.util.ArrayList;
import java.util.LinkedHashSet;
import java.util.List;
import java.util.Set;

/**
 * Promises 1 to 39 and 'Terms', sentence by sentence: runs the tests that bear a sentence, and looks whether
 * each sentence of the document has one. Runs where src stands.
 */
public final class SentencesTest {
    private static final Class<?>[] TESTS = {TermsOfNotes.class, TermsOfPages.class, TermsOfCopies.class,
        PromisesOfParts.class, PromisesOfNotes.class, PromisesOfSpelling.class, PromisesOfRests.class,
        PromisesOfPages.class, PromisesOfCopies.class};
    /** Headings, and sentences that tell what the others are about. */
    private static final Set<String> WITHOUT_A_CASE = Set.of(
            "What it is: A bench of a copyist of music: a score has parts that sound and are written at different"
            + " pitches, bars with keys and marks, and notes; rests are joined across bars but not across marks, pages"
            + " are turned where hands are free, long rests end with cues, and corrections are carried to the parts"
            + " that were copied.",
            "Terms: Parts sound what the score says.",
            "Terms: Parts and bars.", "Terms: Notes.", "Terms: Written pitches and keys.", "Terms: Spelling.",
            "Terms: Long rests.", "Terms: Blocks and pages.", "Terms: Cues.", "Terms: Copies.", "Terms: Exceptions.",
            "Terms: Clarifications.");

    private static final Check check = new Check("SentencesTest");

    public static void main(String[] args) throws IOException, ReflectiveOperationException {
        Set<String> tested = new LinkedHashSet<>();
        for (Class<?> tests : TESTS) {
            for (Method test : tests.getDeclaredMethods()) {
                Sentence sentence = test.getAnnotation(Sentence.class);
                if (sentence != null) {
                    tested.add(sentence.value());
                    run(test, sentence.value());
                }
            }
        }
        List<String> document = sentences(Files.readString(Path.of("../shared/DOC.md")));
        for (String sentence : document) {
            boolean isTold = tested.contains(sentence) || WITHOUT_A_CASE.contains(sentence)
                    || sentence.startsWith("Terms: Ahead of the calls ");
            check.same("a test for the sentence '" + sentence + "'", true, () -> isTold);
        }
        for (String sentence : tested) {
            check.same("in the document: '" + sentence + "'", true, () -> document.contains(sentence));
        }
        check.end();
    }

    private static void run(Method test, String sentence) throws IllegalAccessException {
        try {
            test.invoke(null, new Run(check, test.getName() + " (" + sentence + ")"));
        } catch (InvocationTargetException e) {
            throw new IllegalStateException(test.getName(), e.getCause());
        }
    }

    /** The sentences of the promises, of 'Terms' and of 'What it is', each behind its heading. */
    private static List<String> sentences(String document) {
        List<String> all = new ArrayList<>();
        for (String section : document.split("(?m)^## ")) {
            String heading = section.lines().findFirst().orElse("").split(":")[0];
            if (heading.equals("Terms") || heading.equals("What it is") || heading.startsWith("Promise ")) {
                for (String block : section.substring(section.indexOf('\n')).split("\n\\s*\n|\n(?=- )")) {
                    addSentences(heading, block.trim().replaceAll("\\s+", " "), all);
                }
            }
        }
        return all;
    }

    /** The face that opens a promise, and the sign that opens a row, are no part of the sentence. */
    private static void addSentences(String heading, String block, List<String> all) {
        String words = block.replaceFirst("^`[^`]*\\)[^`]*`: ", "").replaceFirst("^- ", "");
        for (String sentence : words.split("(?<=\\.) (?=[A-Z])")) {
            if (!sentence.isEmpty()) {
                all.add(heading + ": " + sentence);
            }
        }
    }
}
