import java.io.IOException;
import java.lang.reflect.Method;
import java.lang.reflect.Modifier;
import java.util.Arrays;
import java.util.Map;
import java.util.TreeMap;
import java.util.regex.Matcher;
import java.util.regex.Pattern;

/** That every promise has tests of its sentences, where they belong, and that no words of the document are left without one. */
public final class SentencesTest extends Edges {
    private static final Class<?>[] CLASSES = {TermsTest.class, EdgesOfCodesTest.class, EdgesOfBooksTest.class,
        EdgesOfReadersTest.class, EdgesOfShelvesTest.class, EdgesOfBoardsTest.class, EdgesOfMixesTest.class};
    /** The last promise of each class; 0: all of them. */
    private static final int[] LAST = {0, 9, 14, 21, 25, 30, 35};

    /** What says nothing that a call could break: headings, the face, marks, where the interface has its own headings. */
    private static final String[] NO_SENTENCES = {"## Terms", "======== [1-6]", "```(text)?",
        "Ahead of the calls [^:]*the interface says: ---- [1-6] [a-z ]+\\.", "## Promise \\d+: (A new object|\\w+) `[^`]*`:"};
    /** Refusals that a promise names are compared with those that were judged, each by its name, where the tests are run. */
    private static final String REFUSALS = "\\b(UNKNOWN|OUTSIDE|STATE|FULL|NO)\\b";

    private SentencesTest() {
    }

    public static void main(String[] args) throws IOException {
        Map<Integer, Integer> tests = new TreeMap<>();
        for (int i = 0; i < CLASSES.length; i++) {
            int first = i == 0 ? 0 : LAST[i - 1] + 1;
            for (Method test : CLASSES[i].getDeclaredMethods()) {
                boolean isTest = test.isAnnotationPresent(Sentence.class);
                boolean couldBe = test.getParameterCount() == 0 && test.getReturnType() == void.class;
                due(test + " has a sentence, if it is a test", isTest || !couldBe || test.isSynthetic() ? 1 : 0, 1);
                if (isTest) {
                    int promise = test.getAnnotation(Sentence.class).of();
                    due(test + " can be run", couldBe && Modifier.isStatic(test.getModifiers()) ? 1 : 0, 1);
                    due(test + " is in its class", promise >= first && promise <= LAST[i] ? 1 : 0, 1);
                    tests.merge(promise, 1, Integer::sum);
                }
            }
        }
        for (int promise = 0; promise <= 35; promise++) {
            due("promise " + promise + " has tests of its sentences", tests.containsKey(promise) ? 1 : 0, 1);
        }
        if (args.length > 1) {
            String document = documentAt(args[1]);
            allIsQuoted(document, document.indexOf("## Terms"), document.indexOf("## Not promised"));
        }
        Due.end();
    }

    /** Every word of a part of the document is in some quote, or is none that a test could be of. */
    private static void allIsQuoted(String document, int from, int to) {
        due("the document has its Terms before what is not promised", from >= 0 && from < to ? 1 : 0, 1);
        boolean[] quoted = new boolean[document.length()];
        for (Class<?> tests : CLASSES) {
            for (Method test : sentences(tests)) {
                Sentence sentence = test.getAnnotation(Sentence.class);
                for (int place : placesOf(document, sentence)) {
                    Arrays.fill(quoted, place, place + sentence.says().length(), true);
                }
            }
        }
        markAll(document, quoted, REFUSALS);
        for (String pattern : NO_SENTENCES) {
            markAll(document, quoted, pattern);
        }
        StringBuilder rest = new StringBuilder();
        for (int place = from; place < to; place++) {
            rest.append(quoted[place] ? '\n' : document.charAt(place));
        }
        for (String words : rest.toString().split("\n+")) {
            due("a test of \"" + words.trim() + "\"", words.matches(".*[A-Za-z0-9].*") ? 0 : 1, 1);
        }
    }

    private static void markAll(String document, boolean[] quoted, String pattern) {
        Matcher found = Pattern.compile(pattern).matcher(document);
        while (found.find()) {
            Arrays.fill(quoted, found.start(), found.end(), true);
        }
    }
}
