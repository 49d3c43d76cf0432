import java.util.Random;

/** Runs of random calls, each with as many as an object is promised for, against the model. */
public final class ModelTest {
    private static final int RUNS = 400;
    private static final int CALLS = 512;
    /** What later calls answer is free, so no step begins that could go beyond. */
    private static final int LONGEST_STEP = 25;
    private static final String RULE_SIGNS = "ayks<>=0123456789&|";

    private final Random random;
    private final DotWar x = new DotWar();
    private final Model m = new Model();
    /** Few letters, cells and codes make what stands collide; each run has its own. */
    private final int letters;
    private final int cells;
    private final int codes;
    private final int weirdness;
    /** The part of the document that most calls of the run are about; beyond 5: none is. */
    private final int theme;

    private ModelTest(long seed) {
        random = new Random(seed);
        letters = 2 + random.nextInt(random.nextInt(4) == 0 ? 25 : 5);
        cells = 2 + random.nextInt(random.nextInt(3) == 0 ? 62 : 8);
        codes = 1 + random.nextInt(5);
        weirdness = random.nextInt(60) + 15;
        theme = random.nextInt(9);
    }

    public static void main(String[] args) {
        for (int run = 0; run < RUNS; run++) {
            ModelTest test = new ModelTest(run);
            for (int call = test.begin("seed " + run + ", at first: "); call <= CALLS - LONGEST_STEP;) {
                call += test.step("seed " + run + ", call " + call + ": ");
            }
        }
        for (int run = 0; run < RUNS; run++) {
            new ModelTest(run).chains("chains, seed " + run + ": ");
            new ModelTest(run).pads("pads, seed " + run + ": ");
        }
        Due.end();
    }

    /** Few single cells and many shorts of two, so that the least row read two ways is long. */
    private void chains(String at) {
        int singles = 1 + random.nextInt(3);
        int doubles = 1 + random.nextInt(12);
        int all = 3 + random.nextInt(6);
        for (int l = 0; l < singles; l++) {
            int cell = 1 + random.nextInt(all);
            check(at + "letter(0, " + l + ", " + cell + ")", x.letter(0, l, cell), m.letter(0, l, cell));
        }
        for (int s = 0; s < doubles; s++) {
            shortForm(at, 2, 2, all);
            for (int i = -2; i <= Model.WAYS_TRIED; i++) {
                twoWays(at, 0, i);
            }
        }
    }

    /** A code that fits the pads, each of which is written and read back whole. */
    private void pads(String at) {
        int few = 2 + random.nextInt(3);
        for (int l = 0; l < few; l++) {
            int cell = random.nextInt(few + 2);
            check(at + "letter(0, " + l + ", " + cell + ")", x.letter(0, l, cell), m.letter(0, l, cell));
        }
        int shorts = random.nextInt(8);
        for (int s = 0; s < shorts; s++) {
            shortForm(at, 1 + random.nextInt(2), few, few + 1);
        }
        for (int round = 0; round < 8; round++) {
            fill(at, random.nextInt(9), few, random.nextInt(13), few + 1);
            for (int i = -2; i <= 13; i++) {
                check(at + "write(0, " + i + ")", x.write(0, i), m.write(0, i));
                check(at + "read(0, " + i + ")", x.read(0, i), m.read(0, i));
            }
        }
    }

    private void shortForm(String at, int size, int few, int all) {
        fill(at, 2 + random.nextInt(3), few, size, all);
        check(at + "abbreviate(0)", x.abbreviate(0), m.abbreviate(0));
    }

    private void fill(String at, int spoken, int few, int pressed, int all) {
        check(at + "wipe(0)", x.wipe(0), m.wipe(0));
        check(at + "wipe(1)", x.wipe(1), m.wipe(1));
        for (int i = 0; i < spoken; i++) {
            int l = random.nextInt(few);
            check(at + "say(" + l + ")", x.say(l), m.say(l));
        }
        for (int i = 0; i < pressed; i++) {
            int cell = 1 + random.nextInt(all);
            check(at + "dot(" + cell + ")", x.dot(cell), m.dot(cell));
        }
    }

    /** Most runs begin with codes, readers or words that are there already, or most answers would be refusals. */
    private int begin(String at) {
        int calls = 0;
        if (random.nextInt(4) > 0) {
            for (int i = 0; i < codes * letters && i < 80; i++) {
                int code = i % codes;
                int l = i / codes;
                int cell = 1 + random.nextInt(cells);
                calls += check(at + "letter(" + code + ", " + l + ", " + cell + ")", x.letter(code, l, cell), m.letter(code, l, cell));
            }
        }
        int readers = random.nextInt(21);
        for (int i = 0; i < readers; i++) {
            int age = 5 + random.nextInt(86);
            calls += check(at + "reader(" + age + ", .., true)", x.reader(age, i % 3, true), m.reader(age, i % 3, true));
            int code = random.nextInt(codes);
            calls += check(at + "know(" + i + ", " + code + ", 5)", x.know(i, code, 5), m.know(i, code, 5));
        }
        int words = random.nextInt(8);
        for (int i = 0; i < words; i++) {
            calls += speak(at, 10) + check(at + "word()", x.word(), m.word());
            int n = random.nextInt(1001);
            calls += check(at + "count(" + i % 4 + ", " + i + ", " + n + ")", x.count(i % 4, i, n), m.count(i % 4, i, n));
        }
        return calls;
    }

    private boolean weird() {
        return random.nextInt(weirdness) == 0;
    }

    /** A number from 0 to below the bound; seldom one about its edges, or any. */
    private int pick(int bound, int limit) {
        if (!weird()) {
            return random.nextInt(Math.max(bound, 1));
        }
        switch (random.nextInt(5)) {
            case 0:
                return -1 - random.nextInt(3);
            case 1:
                return limit + random.nextInt(3);
            case 2:
                return limit - 1;
            case 3:
                return random.nextInt();
            default:
                return 0;
        }
    }

    private int letter() {
        return pick(letters, 26);
    }

    private int cell() {
        return random.nextInt(8) == 0 ? pick(1, 64) : 1 + pick(cells, 63);
    }

    private int code() {
        return pick(codes, 5);
    }

    private int person() {
        return pick(m.told(5), m.told(5));
    }

    private int school() {
        return pick(3, 6);
    }

    private int book() {
        return pick(4, 8);
    }

    private int place(int most) {
        return random.nextInt(3) == 0 ? -1 - random.nextInt(3) : pick(most, most);
    }

    private int digits() {
        if (weird()) {
            return random.nextInt(3) == 0 ? random.nextInt() : random.nextInt(12000000);
        }
        int digits = 0;
        for (int i = 0; i < 7; i++) {
            digits = digits * 10 + random.nextInt(codes);
        }
        return digits;
    }

    private static int check(String call, int got, int want) {
        Due.due(call, got, want);
        return 1;
    }

    /** One call, or several that go together: how many. */
    private int step(String at) {
        switch (theme < 6 && random.nextInt(3) > 0 ? theme : random.nextInt(6)) {
            case 0:
                return codes(at);
            case 1:
                return books(at);
            case 2:
                return readers(at);
            case 3:
                return shelves(at);
            case 4:
                return boards(at);
            default:
                return mixes(at);
        }
    }

    private int speak(String at, int most) {
        check(at + "wipe(0)", x.wipe(0), m.wipe(0));
        int n = 1 + random.nextInt(most);
        for (int i = 0; i < n; i++) {
            int l = letter();
            check(at + "say(" + l + ")", x.say(l), m.say(l));
        }
        return n + 1;
    }

    private int press(String at, int most) {
        check(at + "wipe(1)", x.wipe(1), m.wipe(1));
        int n = 1 + random.nextInt(most);
        for (int i = 0; i < n; i++) {
            int cell = cell();
            check(at + "dot(" + cell + ")", x.dot(cell), m.dot(cell));
        }
        return n + 1;
    }

    private int codes(String at) {
        int code = code();
        int i;
        switch (random.nextInt(9)) {
            case 0:
            case 1:
                int l = letter();
                int cell = cell();
                return check(at + "letter(" + code + ", " + l + ", " + cell + ")", x.letter(code, l, cell), m.letter(code, l, cell));
            case 2:
                int calls = speak(at, 4) + press(at, 2);
                return calls + check(at + "abbreviate(" + code + ")", x.abbreviate(code), m.abbreviate(code));
            case 3:
                return speak(at, 12);
            case 4:
                return press(at, 13);
            case 5:
                i = place(10);
                return check(at + "write(" + code + ", " + i + ")", x.write(code, i), m.write(code, i));
            case 6:
                i = place(20);
                return check(at + "read(" + code + ", " + i + ")", x.read(code, i), m.read(code, i));
            case 7:
                i = place(5);
                return twoWays(at, code, i);
            default:
                int which = pick(3, 3);
                return check(at + "wipe(" + which + ")", x.wipe(which), m.wipe(which));
        }
    }

    private int twoWays(String at, int code, int i) {
        int want = m.ways(code, i);
        if (want != Model.NOT_JUDGED) {
            return check(at + "ways(" + code + ", " + i + ")", x.ways(code, i), want);
        }
        int length = x.ways(code, -1);
        return check(at + "ways is none or long", length == 0 || length > Model.WAYS_TRIED ? 1 : 0, 1);
    }

    private int books(String at) {
        int code = code();
        int book = book();
        int what = pick(3, 3);
        switch (random.nextInt(6)) {
            case 0:
                return speak(at, 10) + check(at + "word()", x.word(), m.word());
            case 1:
                return speak(at, 4) + check(at + "row()", x.row(), m.row());
            case 2:
            case 3:
                int word = pick(m.told(3), m.told(3));
                int n = pick(random.nextInt(3) == 0 ? 1 : 1001, 1001);
                return check(at + "count(" + book + ", " + word + ", " + n + ")", x.count(book, word, n), m.count(book, word, n));
            case 4:
                return check(at + "room(" + book + ", " + code + ", " + what + ")", x.room(book, code, what), m.room(book, code, what));
            default:
                int k = pick(13, 13);
                what = pick(2, 2);
                return check(at + "chosen(" + book + ", " + code + ", " + k + ", " + what + ")",
                        x.chosen(book, code, k, what), m.chosen(book, code, k, what));
        }
    }

    private int readers(String at) {
        int code = code();
        int reader = person();
        int school = school();
        switch (random.nextInt(7)) {
            case 0:
                int age = 5 + pick(86, 86);
                boolean sighted = random.nextBoolean();
                return check(at + "reader(" + age + ", " + school + ", " + sighted + ")",
                        x.reader(age, school, sighted), m.reader(age, school, sighted));
            case 1:
                int years = pick(random.nextInt(4) == 0 ? 1 : 51, 51);
                return check(at + "know(" + reader + ", " + code + ", " + years + ")", x.know(reader, code, years), m.know(reader, code, years));
            case 2:
                return check(at + "move(" + reader + ", " + school + ")", x.move(reader, school), m.move(reader, school));
            case 3:
                int what = pick(15, 15);
                return check(at + "about(" + reader + ", " + what + ")", x.about(reader, what), m.about(reader, what));
            case 4:
                int cell = cell();
                return check(at + "near(" + code + ", " + cell + ")", x.near(code, cell), m.near(code, cell));
            case 5:
                return check(at + "pace(" + reader + ", " + code + ")", x.pace(reader, code), m.pace(reader, code));
            default:
                return check(at + "learn(" + reader + ", " + code + ")", x.learn(reader, code), m.learn(reader, code));
        }
    }

    private int shelves(String at) {
        int school = school();
        int what = pick(4, 4);
        switch (random.nextInt(4)) {
            case 0:
                int book = book();
                int code = pick(5, 5);
                int n = pick(random.nextInt(3) == 0 ? 1 : 101, 101);
                return check(at + "shelf(" + school + ", " + book + ", " + code + ", " + n + ")",
                        x.shelf(school, book, code, n), m.shelf(school, book, code, n));
            case 1:
                int reader = person();
                return check(at + "reads(" + reader + ")", x.reads(reader), m.reads(reader));
            case 2:
                return check(at + "school(" + school + ", " + what + ")", x.school(school, what), m.school(school, what));
            default:
                int coin = pick(random.nextInt(3) == 0 ? 1001 : 50, 1001);
                return check(at + "fund(" + coin + ", " + what + ")", x.fund(coin, what), m.fund(coin, what));
        }
    }

    private int rule(String at) {
        check(at + "wipe(2)", x.wipe(2), m.wipe(2));
        int tests = 1 + random.nextInt(4);
        StringBuilder text = new StringBuilder();
        for (int i = 0; i < tests; i++) {
            text.append(i == 0 ? "" : random.nextBoolean() ? "&" : "|").append("ayks".charAt(random.nextInt(4)));
            text.append("<>=".charAt(random.nextInt(3))).append(random.nextInt(random.nextBoolean() ? 3 : 90));
        }
        if (random.nextInt(3) == 0) {
            text.setCharAt(random.nextInt(text.length()), RULE_SIGNS.charAt(random.nextInt(RULE_SIGNS.length())));
        }
        for (int i = 0; i < text.length(); i++) {
            int sign = weird() ? pick(127, 127) : text.charAt(i);
            check(at + "sign(" + sign + ")", x.sign(sign), m.sign(sign));
        }
        return text.length() + 1;
    }

    private int boards(String at) {
        int school = school();
        switch (random.nextInt(5)) {
            case 0:
                return rule(at);
            case 1:
                return check(at + "fault()", x.fault(), m.fault());
            case 2:
                return check(at + "board(" + school + ")", x.board(school), m.board(school));
            case 3:
                return check(at + "voters(" + school + ")", x.voters(school), m.voters(school));
            default:
                boolean asked = random.nextBoolean();
                return check(at + "choice(" + school + ", " + asked + ")", x.choice(school, asked), m.choice(school, asked));
        }
    }

    private int mixes(String at) {
        int digits = digits();
        switch (random.nextInt(5)) {
            case 0:
                int l = letter();
                int p = pick(8, 8) - 1;
                return check(at + "part(" + l + ", " + p + ")", x.part(l, p), m.part(l, p));
            case 1:
                return check(at + "mix(" + digits + ")", x.mix(digits), m.mix(digits));
            case 2:
                return check(at + "anew(" + digits + ")", x.anew(digits), m.anew(digits));
            case 3:
                return random.nextInt(4) == 0 ? check(at + "best()", x.best(), m.best()) : told(at);
            default:
                return told(at);
        }
    }

    private int told(String at) {
        int what = random.nextBoolean() ? pick(7, 7) : pick(25, 25);
        return check(at + "told(" + what + ")", x.told(what), m.told(what));
    }
}
