import java.util.ArrayList;
import java.util.List;

/** What the document says of all calls at once: the constants, which refusal comes first, what changes nothing, 512 calls. */
public final class TermsTest extends Edges {
    /** Calls that are made on an object before it is looked at: setup, these and the look are 512 at most. */
    private static final int AT_ONCE = 8;

    private interface Numbers {
        int on(DotWar x, int[] numbers);
    }

    /** What a call takes as one of its numbers, and what it answers to another. */
    private record Range(int least, int most, int refusal) {
    }

    private record Face(String name, boolean asks, Numbers call, Range... ranges) {
    }

    private record Question(String name, Call call) {
    }

    private static final Range CODE = new Range(0, 4, UNKNOWN);
    private static final Range LETTER = new Range(0, 25, UNKNOWN);
    private static final Range BOOK = new Range(0, 7, UNKNOWN);
    private static final Range SCHOOL = new Range(0, 5, UNKNOWN);
    private static final Range CELL = new Range(1, 63, OUTSIDE);
    private static final Range DIGITS = new Range(0, 4444444, OUTSIDE);
    private static final Range PLACE = new Range(MIN, MAX, OUTSIDE);

    private TermsTest() {
    }

    public static void main(String[] args) throws Exception {
        run(TermsTest.class, args);
    }

    private static Range upTo(int most) {
        return new Range(0, most, OUTSIDE);
    }

    /** All calls that take numbers, on an object with so many WORDS and READERS. */
    private static List<Face> calls(int words, int readers) {
        Range word = new Range(0, words - 1, UNKNOWN);
        Range reader = new Range(0, readers - 1, UNKNOWN);
        List<Face> all = new ArrayList<>();
        all.add(new Face("letter", false, (x, n) -> x.letter(n[0], n[1], n[2]), CODE, LETTER, upTo(63)));
        all.add(new Face("say", false, (x, n) -> x.say(n[0]), LETTER));
        all.add(new Face("dot", false, (x, n) -> x.dot(n[0]), CELL));
        all.add(new Face("wipe", false, (x, n) -> x.wipe(n[0]), upTo(2)));
        all.add(new Face("abbreviate", false, (x, n) -> x.abbreviate(n[0]), CODE));
        all.add(new Face("write", true, (x, n) -> x.write(n[0], n[1]), CODE, PLACE));
        all.add(new Face("read", true, (x, n) -> x.read(n[0], n[1]), CODE, PLACE));
        all.add(new Face("ways", true, (x, n) -> x.ways(n[0], n[1]), CODE, PLACE));
        all.add(new Face("count", false, (x, n) -> x.count(n[0], n[1], n[2]), BOOK, word, upTo(1000)));
        all.add(new Face("room", true, (x, n) -> x.room(n[0], n[1], n[2]), BOOK, CODE, upTo(2)));
        all.add(new Face("chosen", true, (x, n) -> x.chosen(n[0], n[1], n[2], n[3]), BOOK, CODE, upTo(12), upTo(1)));
        all.add(new Face("reader", false, (x, n) -> x.reader(n[0], n[1], true), new Range(5, 90, OUTSIDE), SCHOOL));
        all.add(new Face("know", false, (x, n) -> x.know(n[0], n[1], n[2]), reader, CODE, upTo(50)));
        all.add(new Face("move", false, (x, n) -> x.move(n[0], n[1]), reader, SCHOOL));
        all.add(new Face("about", true, (x, n) -> x.about(n[0], n[1]), reader, upTo(14)));
        all.add(new Face("near", true, (x, n) -> x.near(n[0], n[1]), CODE, CELL));
        all.add(new Face("pace", true, (x, n) -> x.pace(n[0], n[1]), reader, CODE));
        all.add(new Face("learn", true, (x, n) -> x.learn(n[0], n[1]), reader, CODE));
        all.add(new Face("shelf", false, (x, n) -> x.shelf(n[0], n[1], n[2], n[3]), SCHOOL, BOOK, CODE, upTo(100)));
        all.add(new Face("reads", true, (x, n) -> x.reads(n[0]), reader));
        all.add(new Face("school", true, (x, n) -> x.school(n[0], n[1]), SCHOOL, upTo(3)));
        all.add(new Face("fund", true, (x, n) -> x.fund(n[0], n[1]), upTo(1000), upTo(3)));
        all.add(new Face("sign", false, (x, n) -> x.sign(n[0]), new Range(33, 126, OUTSIDE)));
        all.add(new Face("board", false, (x, n) -> x.board(n[0]), SCHOOL));
        all.add(new Face("voters", true, (x, n) -> x.voters(n[0]), SCHOOL));
        all.add(new Face("choice", true, (x, n) -> x.choice(n[0], true), SCHOOL));
        all.add(new Face("choice of voters", true, (x, n) -> x.choice(n[0], false), SCHOOL));
        all.add(new Face("part", false, (x, n) -> x.part(n[0], n[1]), LETTER, new Range(-1, 6, OUTSIDE)));
        all.add(new Face("mix", true, (x, n) -> x.mix(n[0]), DIGITS));
        all.add(new Face("anew", true, (x, n) -> x.anew(n[0]), DIGITS));
        all.add(new Face("told", true, (x, n) -> x.told(n[0]), upTo(24)));
        return all;
    }

    // ---- numbers that a call is made with

    private static int[] tried(Range range, boolean wrongToo) {
        if (range.least() == MIN) {
            return new int[] {-2, -1, 0, 1};
        }
        if (!wrongToo) {
            return new int[] {range.least(), range.most()};
        }
        return new int[] {range.least(), range.most(), range.least() - 1, range.most() + 1, MIN, MAX};
    }

    /** Every way to take one of the numbers that are tried for each range. */
    private static List<int[]> rowsOf(Range[] ranges, boolean wrongToo) {
        List<int[]> rows = new ArrayList<>();
        rows.add(new int[ranges.length]);
        for (int i = 0; i < ranges.length; i++) {
            List<int[]> longer = new ArrayList<>();
            for (int[] row : rows) {
                for (int number : tried(ranges[i], wrongToo)) {
                    int[] next = row.clone();
                    next[i] = number;
                    longer.add(next);
                }
            }
            rows = longer;
        }
        return rows;
    }

    /** What is due of the numbers alone; 0: they are as told. */
    private static int refusalOf(Range[] ranges, int[] numbers) {
        int refusal = 0;
        for (int i = 0; i < ranges.length; i++) {
            boolean wrong = numbers[i] < ranges[i].least() || numbers[i] > ranges[i].most();
            if (wrong && refusal != UNKNOWN) {
                refusal = ranges[i].refusal();
            }
        }
        return refusal;
    }

    private static String nameOf(Face face, int[] numbers) {
        StringBuilder name = new StringBuilder(face.name());
        for (int number : numbers) {
            name.append(' ').append(number);
        }
        return name.toString();
    }

    /** Calls that only ask: those with numbers from the ends of their ranges, and those without any. */
    private static List<Question> questions() {
        List<Question> all = new ArrayList<>();
        for (Face face : calls(3, 3)) {
            for (int[] numbers : face.asks() ? rowsOf(face.ranges(), false) : new ArrayList<int[]>()) {
                all.add(new Question(nameOf(face, numbers), x -> face.call().on(x, numbers)));
            }
        }
        all.add(new Question("chosen of all rows", x -> x.chosen(0, 3, 12, 0)));
        all.add(new Question("mix of code 3", x -> x.mix(3333333)));
        all.add(new Question("anew of code 3", x -> x.anew(3333333)));
        all.add(new Question("fault", x -> x.fault()));
        all.add(new Question("best", x -> x.best()));
        return all;
    }

    // ---- what the document says

    @Sentence(of = 0, says = "The constants: `UNKNOWN = -1, OUTSIDE = -2, STATE = -3, FULL = -4, NO = -5, NONE = -6`: "
            + "What refused calls answer; NONE: there is none.")
    static void constants() {
        due("UNKNOWN", DotWar.UNKNOWN, -1);
        due("OUTSIDE", DotWar.OUTSIDE, -2);
        due("STATE", DotWar.STATE, -3);
        due("FULL", DotWar.FULL, -4);
        due("NO", DotWar.NO, -5);
        due("NONE", DotWar.NONE, -6);
        DotWar x = new DotWar();
        due("there is no such code", x.write(5, 0), DotWar.UNKNOWN);
        due("another number is not as told", x.dot(0), DotWar.OUTSIDE);
        x.reader(30, 0, true);
        due("she does not know it", x.pace(0, 0), DotWar.STATE);
        fillLetters(x);
        due("the pad is full", x.say(0), DotWar.FULL);
        due("it can not be", x.row(), DotWar.NO);
        due("there is none", x.about(0, 3), DotWar.NONE);
    }

    @Sentence(of = 0, says = "Calls that are refused answer, the first of these that fits: UNKNOWN -1 (there is no such CODE, LETTER, WORD, "
            + "BOOK, READER, SCHOOL), OUTSIDE -2 (another number is not as told), STATE -3 (as told), FULL -4, NO -5 (as told).")
    static void theFirstThatFits() {
        dueRefusals("ordinary", ORDINARY, calls(3, 3));
        dueRefusals("filled", FILLED, calls(30, 20));
    }

    private static void dueRefusals(String name, Setup before, List<Face> faces) {
        for (Face face : faces) {
            for (int[] numbers : rowsOf(face.ranges(), true)) {
                int refusal = refusalOf(face.ranges(), numbers);
                if (refusal != 0) {
                    due(name + ": " + nameOf(face, numbers), face.call().on(made(before), numbers), refusal);
                }
            }
        }
    }

    @Sentence(of = 0, says = "They change nothing.")
    static void refusedCallsChangeNothing() {
        dueNothingChanged("ordinary", ORDINARY, calls(3, 3));
        dueNothingChanged("filled", FILLED, calls(30, 20));
    }

    private static void dueNothingChanged(String name, Setup before, List<Face> faces) {
        for (Face face : faces) {
            List<Question> refused = new ArrayList<>();
            for (int[] numbers : rowsOf(face.ranges(), true)) {
                if (refusalOf(face.ranges(), numbers) != 0) {
                    refused.add(new Question(nameOf(face, numbers), x -> face.call().on(x, numbers)));
                }
            }
            dueUnchanged(name, before, refused);
        }
    }

    private static void dueUnchanged(String name, Setup before, List<Question> calls) {
        for (int from = 0; from < calls.size(); from += AT_ONCE) {
            List<Question> some = calls.subList(from, Math.min(from + AT_ONCE, calls.size()));
            unchanged(name + ": " + some.get(0).name() + " and more", before, x -> some.forEach(one -> one.call().on(x)));
        }
    }

    @Sentence(of = 0, says = "Nothing is promised beyond the answers and state changes described above")
    static void callsThatAskChangeNothing() {
        dueUnchanged("ordinary", ORDINARY, questions());
        dueUnchanged("filled", FILLED, questions());
    }

    /** What a call works with inside is used again by others: none may see what another one left there. */
    @Sentence(of = 0, says = "Nothing is promised beyond the answers and state changes described above")
    static void whatIsAskedBeforeDoesNotMatter() {
        List<Question> all = questions();
        int[] alone = new int[all.size()];
        for (int i = 0; i < alone.length; i++) {
            alone[i] = all.get(i).call().on(made(ORDINARY));
        }
        int half = alone.length / 2 + 1;
        for (Question before : all) {
            for (int from = 0; from < alone.length; from += half) {
                DotWar x = made(ORDINARY);
                for (int i = from; i < Math.min(from + half, alone.length); i++) {
                    before.call().on(x);
                    due(all.get(i).name() + " behind " + before.name(), all.get(i).call().on(x), alone[i]);
                }
            }
        }
    }

    @Sentence(of = 0, says = "An object is used for at most 512 calls after it has been made; what later calls answer is free.")
    static void allOf512Calls() {
        DotWar x = new DotWar();
        int[][] was = new int[5][26];
        for (int call = 1; call <= 512; call++) {
            int code = call % 5;
            int l = call * 7 % 26;
            due("call " + call, x.letter(code, l, call % 64), was[code][l]);
            was[code][l] = call % 64;
        }
        DotWar y = made(ORDINARY);
        for (int call = 145; call < 512; call++) {
            y.best();
        }
        due("the last of many", y.best(), made(ORDINARY).best());
    }
}
