import java.io.IOException;
import java.lang.reflect.Method;
import java.nio.file.Files;
import java.nio.file.Path;
import java.util.ArrayList;
import java.util.Arrays;
import java.util.Comparator;
import java.util.IdentityHashMap;
import java.util.List;
import java.util.Map;
import java.util.TreeMap;
import java.util.regex.Pattern;
import java.util.stream.IntStream;

/** What the tests of sentences have in common: objects in some state, calls that are refused, what then must still stand. */
abstract class Edges extends Hands {
    /** What is done to a new object before a call is judged. */
    interface Setup {
        void on(DotWar x);
    }

    interface Call {
        int on(DotWar x);
    }

    interface NumberCall {
        int on(DotWar x, int number);
    }

    static final Setup NEW = x -> { };
    static final Setup ORDINARY = Edges::makeOrdinary;
    static final Setup FILLED = Edges::makeFilled;

    /** An object is promised for 512 calls, so its state is looked at in parts, each on an object of its own. */
    private static final int VIEWS = 7;
    private static final String[] REFUSAL_NAMES = {"", "UNKNOWN", "OUTSIDE", "STATE", "FULL", "NO"};
    private static final Map<Setup, List<List<Integer>>> SEEN = new IdentityHashMap<>();

    /** Refusals that were judged, as bits, by promise. */
    private static final Map<Integer, Integer> REFUSALS = new TreeMap<>();
    private static int promise;

    /** Runs every test of a sentence in a class, in the order of the promises; the document's path is the second argument. */
    static void run(Class<?> tests, String[] args) throws ReflectiveOperationException, IOException {
        for (Method test : sentences(tests)) {
            Sentence sentence = test.getAnnotation(Sentence.class);
            promise = sentence.of();
            REFUSALS.putIfAbsent(promise, 0);
            Due.about("promise " + promise + ", " + test.getName() + " (\"" + sentence.says() + "\"): ");
            test.invoke(null);
        }
        if (args.length > 1 && Files.exists(Path.of(args[1]))) {
            compareWithDocument(tests, documentAt(args[1]));
        }
        Due.end();
    }

    /** The document on one line, for its quotes do not know where its lines end. */
    static String documentAt(String path) throws IOException {
        return Files.readString(Path.of(path)).replaceAll("\\s+", " ");
    }

    /** The quotes are the document's words, and every refusal that a promise names was judged. */
    private static void compareWithDocument(Class<?> tests, String document) {
        for (Method test : sentences(tests)) {
            Sentence sentence = test.getAnnotation(Sentence.class);
            Due.about("promise " + sentence.of() + ", " + test.getName() + ": ");
            boolean stands = placesOf(document, sentence).length > 0;
            due("the document says \"" + sentence.says() + "\"", stands ? 1 : 0, 1);
        }
        for (Map.Entry<Integer, Integer> judged : REFUSALS.entrySet()) {
            Due.about("promise " + judged.getKey() + ": ");
            String text = promiseIn(document, judged.getKey());
            for (int refusal = UNKNOWN; refusal >= NO; refusal--) {
                boolean named = Pattern.compile("\\b" + REFUSAL_NAMES[-refusal] + "\\b").matcher(text).find();
                due(REFUSAL_NAMES[-refusal] + " judged", judged.getValue() >> -refusal & 1, named ? 1 : 0);
            }
        }
    }

    /** Where the words of a sentence begin, in the Terms and in their promise; those of all promises may stand anywhere. */
    static int[] placesOf(String document, Sentence sentence) {
        int terms = document.indexOf("## Promise 1:");
        int from = document.indexOf("## Promise " + sentence.of() + ":");
        int to = document.indexOf("## ", from + 3);
        return IntStream.range(0, document.length()).filter(place -> document.startsWith(sentence.says(), place))
                .filter(place -> sentence.of() == 0 || place < terms || from <= place && place < to).toArray();
    }

    private static String promiseIn(String document, int number) {
        int from = document.indexOf("## Promise " + number + ":");
        int to = from < 0 ? -1 : document.indexOf("## ", from + 3);
        return to < 0 ? "" : document.substring(from, to);
    }

    static List<Method> sentences(Class<?> tests) {
        return Arrays.stream(tests.getDeclaredMethods()).filter(test -> test.isAnnotationPresent(Sentence.class))
                .sorted(Comparator.comparing((Method test) -> test.getAnnotation(Sentence.class).of())
                        .thenComparing(Method::getName)).toList();
    }

    static DotWar made(Setup before) {
        DotWar x = new DotWar();
        before.on(x);
        return x;
    }

    static Setup then(Setup before, Setup more) {
        return x -> {
            before.on(x);
            more.on(x);
        };
    }

    // ---- refused calls

    /** The call is refused, refused again, and changes nothing of what can be seen. */
    static void refused(String name, Setup before, Call call, int refusal) {
        REFUSALS.merge(promise, 1 << -refusal, (some, more) -> some | more);
        unchanged(name, before, x -> {
            due(name, call.on(x), refusal);
            due(name + ", again", call.on(x), refusal);
        });
    }

    /** Some calls change nothing of what can be seen. */
    static void unchanged(String name, Setup before, Setup calls) {
        for (int view = 0; view < VIEWS; view++) {
            DotWar x = made(before);
            calls.on(x);
            due(name + " changes nothing (view " + view + ")", view(x, view).equals(seen(before).get(view)) ? 1 : 0, 1);
        }
    }

    /** Numbers next to the range on either side, those that bytes or shorts would wrap into it, and the farthest. */
    static int[] beyond(int least, int most) {
        return new int[] {least - 1, most + 1, least - 2, most + 2, least - 256, least + 256 * (most / 256 + 1),
            least + 65536, most - 65536, MIN + least + 1, MIN, MAX};
    }

    static void refusedBeyond(String name, int least, int most, Setup before, NumberCall call, int refusal) {
        for (int number : beyond(least, most)) {
            refused(name + " " + number, before, x -> call.on(x, number), refusal);
        }
    }

    /** Each number of the range, on an object of its own. */
    static void taken(String name, int least, int most, Setup before, NumberCall call, int answer) {
        for (int number = least; number <= most; number++) {
            due(name + " " + number, call.on(made(before), number), answer);
        }
    }

    private static List<List<Integer>> seen(Setup before) {
        return SEEN.computeIfAbsent(before, setup -> {
            List<List<Integer>> all = new ArrayList<>();
            for (int view = 0; view < VIEWS; view++) {
                all.add(view(made(setup), view));
            }
            return all;
        });
    }

    // ---- objects in some state

    /** Something of every kind: some 140 calls. CODE 3 tells LETTERS and CELLS of the pads apart. */
    static void makeOrdinary(DotWar x) {
        for (int l = 0; l < 26; l++) {
            x.letter(3, l, l + 1);
        }
        alphabet(x, 0, 1, 3, 9, 25, 17, 11);
        alphabet(x, 1, 3, 1, 9);
        alphabet(x, 4, 1, 2, 4);
        shortOf(x, 0, "ab", 6);
        shortOf(x, 0, "cde", 1, 3);
        shortOf(x, 4, "abcd", 63);
        wordOf(x, "abc");
        wordOf(x, "fad");
        wordOf(x, "z");
        x.count(0, 0, 10);
        x.count(0, 1, 1000);
        x.count(7, 0, 3);
        x.count(3, 2, 1);
        rowOf(x, "ab");
        rowOf(x, "abc");
        x.reader(30, 0, true);
        x.reader(80, 1, false);
        x.reader(61, 0, false);
        x.know(0, 0, 9);
        x.know(0, 1, 9);
        x.know(1, 4, 2);
        x.know(2, 1, 50);
        x.shelf(0, 0, 0, 2);
        x.shelf(0, 1, 1, 1);
        x.shelf(1, 2, 4, 7);
        x.shelf(5, 7, 4, 100);
        boardOf(x, 0, "a>25&s=1|k=1");
        boardOf(x, 1, "y=2");
        x.part(0, 0);
        x.part(1, 6);
        x.part(2, 0);
        x.part(25, 3);
        pad(x, "abcd");
        cells(x, 6, 9, 1);
        signs(x, "a>30");
    }

    /** As much as there can be of all that is counted: some 260 calls. */
    static void makeFilled(DotWar x) {
        for (int l = 0; l < 26; l++) {
            x.letter(3, l, l + 1);
        }
        fillShorts(x, 0);
        fillWords(x);
        fillRows(x);
        fillReaders(x);
        x.know(0, 0, 50);
        x.know(19, 4, 1);
        x.count(7, 29, 1000);
        x.shelf(5, 7, 4, 100);
        fillLetters(x);
        fillCells(x);
        fillSigns(x);
    }

    static void fillShorts(DotWar x, int code) {
        for (int i = 0; i < 12; i++) {
            x.say(i);
            x.say(i + 1);
            x.dot(i + 30);
            x.abbreviate(code);
        }
    }

    static void fillWords(DotWar x) {
        for (int i = 0; i < 30; i++) {
            x.say(i % 26);
            x.word();
        }
    }

    static void fillRows(DotWar x) {
        for (int i = 0; i < 12; i++) {
            x.say(i);
            x.say(i + 2);
            x.row();
        }
    }

    static void fillReaders(DotWar x) {
        for (int i = 0; i < 20; i++) {
            x.reader(20 + i, i % 6, i % 2 == 0);
        }
    }

    static void fillLetters(DotWar x) {
        for (int i = 0; i < 10; i++) {
            x.say(i + 3);
        }
    }

    static void fillCells(DotWar x) {
        for (int i = 0; i < 12; i++) {
            x.dot(i + 4);
        }
    }

    /** A RULE of as many signs as there may be. */
    static final String FORTY = "a>20&a<998|k=000|y>999&s=0|a>025|k<1&y=0";

    static void fillSigns(DotWar x) {
        for (int i = 0; i < FORTY.length(); i++) {
            x.sign(FORTY.charAt(i));
        }
    }

    // ---- what can be seen; the object is spent by it

    private static List<Integer> view(DotWar x, int view) {
        List<Integer> seen = new ArrayList<>();
        switch (view) {
            case 0:
                viewPads(x, seen);
                break;
            case 1:
                viewShorts(x, seen);
                break;
            case 2:
                viewLettersAndParts(x, seen);
                break;
            case 3:
                viewCounts(x, seen);
                break;
            case 4:
                viewShelves(x, seen);
                break;
            case 5:
                viewReaders(x, seen);
                break;
            default:
                viewAnswers(x, seen);
        }
        return seen;
    }

    private static void viewPads(DotWar x, List<Integer> seen) {
        for (int what = 0; what < 7; what++) {
            seen.add(x.told(what));
        }
        for (int code = 0; code < 5; code++) {
            seen.add(x.told(10 + code));
            seen.add(x.told(20 + code));
        }
        for (int i = -2; i <= 12; i++) {
            seen.add(x.write(3, i));
            seen.add(x.read(3, i));
        }
        seen.add(x.fault());
        for (int which = 0; which < 3; which++) {
            seen.add(x.wipe(which));
        }
    }

    private static void viewShorts(DotWar x, List<Integer> seen) {
        for (int code = 0; code < 5; code++) {
            for (int i = -2; i < 14; i++) {
                seen.add(x.ways(code, i));
                seen.add(x.write(code, i));
                seen.add(i < 6 ? x.read(code, i) : 0);
            }
        }
    }

    private static void viewLettersAndParts(DotWar x, List<Integer> seen) {
        for (int l = 0; l < 26; l++) {
            for (int code = 0; code < 5; code++) {
                seen.add(x.letter(code, l, 0));
            }
            seen.add(x.part(l, -1));
        }
    }

    private static void viewCounts(DotWar x, List<Integer> seen) {
        int words = x.told(3);
        for (int word = 0; word < words; word++) {
            for (int book = 0; book < 8; book++) {
                seen.add(x.count(book, word, 0));
            }
        }
    }

    private static void viewShelves(DotWar x, List<Integer> seen) {
        for (int school = 0; school < 6; school++) {
            for (int book = 0; book < 8; book++) {
                for (int code = 0; code < 5; code++) {
                    seen.add(x.shelf(school, book, code, 0));
                }
            }
        }
    }

    private static void viewReaders(DotWar x, List<Integer> seen) {
        int readers = x.told(5);
        for (int reader = 0; reader < readers; reader++) {
            for (int what = 0; what < 5; what++) {
                seen.add(x.about(reader, what));
                seen.add(x.about(reader, 10 + what));
            }
        }
    }

    private static void viewAnswers(DotWar x, List<Integer> seen) {
        for (int book = 0; book < 8; book++) {
            for (int code = 0; code < 5; code++) {
                seen.add(x.room(book, code, 1));
            }
            seen.add(x.chosen(book, 3, 12, 0));
            seen.add(x.chosen(book, 3, 12, 1));
        }
        for (int what = 0; what < 4; what++) {
            seen.add(x.fund(1000, what));
        }
        for (int school = 0; school < 6; school++) {
            for (int what = 0; what < 4; what++) {
                seen.add(x.school(school, what));
            }
            seen.add(x.voters(school));
            seen.add(x.choice(school, false));
            seen.add(x.choice(school, true));
        }
        seen.add(x.mix(0));
        seen.add(x.anew(3333333));
        seen.add(x.best());
        seen.add(x.board(0));
        seen.add(x.voters(0));
    }
}
