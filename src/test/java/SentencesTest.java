import java.lang.reflect.Method;
import java.lang.reflect.Modifier;
import java.util.Map;
import java.util.TreeMap;

/** That every promise has tests of its sentences, where they belong. */
public final class SentencesTest extends Edges {
    private static final Class<?>[] CLASSES = {EdgesOfCodesTest.class, EdgesOfBooksTest.class, EdgesOfReadersTest.class,
        EdgesOfShelvesTest.class, EdgesOfBoardsTest.class, EdgesOfMixesTest.class};
    /** The last promise of each class. */
    private static final int[] LAST = {9, 14, 21, 25, 30, 35};

    private SentencesTest() {
    }

    public static void main(String[] args) {
        Map<Integer, Integer> tests = new TreeMap<>();
        for (int i = 0; i < CLASSES.length; i++) {
            int first = i == 0 ? 1 : LAST[i - 1] + 1;
            for (Method test : CLASSES[i].getDeclaredMethods()) {
                boolean isTest = test.isAnnotationPresent(Sentence.class);
                boolean couldBe = test.getParameterCount() == 0 && test.getReturnType() == void.class;
                due(test + " has a sentence, if it is a test", isTest || !couldBe || test.isSynthetic() ? 1 : 0, 1);
                if (isTest) {
                    int promise = test.getAnnotation(Sentence.class).of();
                    due(test + " can be run", couldBe && Modifier.isStatic(test.getModifiers()) ? 1 : 0, 1);
                    due(test + " is in its class", promise >= first && promise <= LAST[i] ? 1 : 0, 1);
                    tests.merge(promise, 1, Integer::sum);
                }
            }
        }
        for (int promise = 1; promise <= 35; promise++) {
            due("promise " + promise + " has tests of its sentences", tests.containsKey(promise) ? 1 : 0, 1);
        }
        Due.end();
    }
}
