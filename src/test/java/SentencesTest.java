import java.io.IOException;
import java.lang.reflect.InvocationTargetException;
import java.lang.reflect.Method;
import java.util.Arrays;
import java.util.Comparator;
import java.util.List;
import java.util.Set;
import java.util.TreeSet;

/**
 * Runs the tests of single sentences, and looks whether each sentence of the document that names a boundary
 * has one: a sentence has a test, or it stands here among those that name no boundary.
 */
public final class SentencesTest {
    private static final Check CHECK = new Check("SentencesTest");
    private static final List<Class<?>> TESTS = List.of(SentencesOfBook.class, SentencesOfCommands.class,
        SentencesOfRejections.class, SentencesOfChanges.class, SentencesOfMarks.class, SentencesOfPages.class,
        SentencesOfChapters.class, SentencesOfVotes.class, SentencesOfReader.class, SentencesOfTotals.class,
        SentencesOfOutput.class, SentencesOfInput.class, SentencesOfHistory.class);

    /** Parameters without a range; which of their values are refused, a sentence with "Throws" tells. */
    private static final Set<String> PLAIN_PARAMETERS = Set.of("`page`: the page", "`mark`: the id of a mark",
        "`first`: the id of one ribbon", "`second`: the id of the other ribbon", "`seat`: the seat",
        "`chapter`: the index of a chapter", "`forward`: whether the pages are turned forward");

    /** Answers that are told whole by the first sentence of their promise, which has the test. */
    private static final Set<String> TOLD_BEFORE = Set.of("Returns the page.", "Returns the weight.", "Returns the seat.",
        "Returns the id of the mark.", "Returns the index of the chapter.", "Returns the number of pages.",
        "Returns the sum.", "Returns the same number.", "Returns the same weight.", "Returns the same sum.",
        "Returns whether it is held.", "Returns whether it would be carried.", "Returns the number of dog ears.",
        "Returns the number of votes.", "Returns the number of motions.", "Returns the number of changes.",
        "Returns the mean weight.", "Returns the share.", "Returns the character.", "Returns the offset.",
        "Returns the detail.");

    private SentencesTest() {
    }

    public static void main(String[] args) throws IOException, IllegalAccessException {
        Set<String> tested = new TreeSet<>();
        for (Class<?> type : TESTS) {
            for (Method method : inOrder(type)) {
                runTest(method, tested);
            }
        }
        compareWithDocument(tested);
        CHECK.end();
    }

    private static List<Method> inOrder(Class<?> type) {
        return Arrays.stream(type.getDeclaredMethods()).filter(method -> method.isAnnotationPresent(Sentence.class))
            .sorted(Comparator.comparing(Method::getName)).toList();
    }

    private static void runTest(Method method, Set<String> tested) throws IllegalAccessException {
        Sentence sentence = method.getAnnotation(Sentence.class);
        String key = sentence.of() + ": " + sentence.says();
        CHECK.compare(true, "a second test of " + key, tested.add(key));
        Check check = new Check(key);
        try {
            method.invoke(null, check);
        } catch (InvocationTargetException thrown) {
            check.compare("an end", method.getName(), thrown.getCause());
        }
        CHECK.compare(true, "the test " + method.getName() + " of " + key, check.holds());
        CHECK.add(check);
    }

    private static void compareWithDocument(Set<String> tested) throws IOException {
        Set<String> sentences = Document.sentences();
        for (String key : tested) {
            CHECK.compare(true, "the document says " + key, sentences.contains(key));
        }
        for (String key : sentences) {
            CHECK.compare(true, "a test of " + key, tested.contains(key) || namesNoBoundary(key));
        }
    }

    private static boolean namesNoBoundary(String key) {
        String sentence = key.substring(key.indexOf(": ") + 2);
        return PLAIN_PARAMETERS.contains(sentence) || TOLD_BEFORE.contains(sentence)
            || key.startsWith("What it is: A manager of") || key.startsWith("Not promised: ")
            || sentence.startsWith("Ahead of the calls ");
    }
}
