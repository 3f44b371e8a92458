import java.lang.reflect.InvocationTargetException;
import java.lang.reflect.Method;
import java.lang.reflect.Modifier;
import java.util.ArrayList;
import java.util.Comparator;
import java.util.List;

/**
 * Runs the tests of single sentences. Each must quote words that the document says, and all of
 * the words in its introduction, terms and promises must be quoted by one.
 */
final class SentencesTest {
    private static final List<Class<?>> CLASSES = List.of(IntroductionSentences.class,
            AxesSentences.class, ZonesSentences.class, BlendSentences.class,
            BorderSentences.class, OperatorSentences.class, MoveSentences.class,
            SnapshotSentences.class, TextSentences.class, LookingSentences.class,
            QuestionSentences.class, ErrorSentences.class);

    public static void main(String[] args) throws IllegalAccessException {
        int tests = 0;
        for (Class<?> owner : CLASSES) {
            for (Method test : testsOf(owner)) {
                run(test);
                tests++;
            }
        }
        Sentences.CHECK.due("promises", Sentences.DOC.promises(), 31);
        for (String open : Sentences.DOC.unquoted()) {
            Sentences.CHECK.holds("a test of the words \"" + open + "\"", false);
        }
        System.out.println("SentencesTest: " + tests + " tests of single sentences");
        Sentences.CHECK.end();
    }

    private static List<Method> testsOf(Class<?> owner) {
        List<Method> tests = new ArrayList<>();
        for (Method m : owner.getDeclaredMethods()) {
            if (Modifier.isStatic(m.getModifiers()) && !Modifier.isPrivate(m.getModifiers())
                    && !m.isSynthetic() && m.getParameterCount() == 0) {
                tests.add(m);
            }
        }
        tests.sort(Comparator.comparing(Method::getName));
        return tests;
    }

    private static void run(Method test) throws IllegalAccessException {
        Sentences.startTest();
        try {
            test.invoke(null);
        } catch (InvocationTargetException thrown) {
            throw new IllegalStateException(test + " ended early", thrown.getCause());
        }
        Sentences.CHECK.holds(test + " quotes the document", Sentences.quotes());
    }
}
