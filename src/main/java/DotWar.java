import java.util.Arrays;

/** A war of the dots: codes of raised points, their books, readers, schools, boards, and a code mixed of all. */
public final class DotWar {
    public static final int UNKNOWN = -1, OUTSIDE = -2, STATE = -3, FULL = -4, NO = -5, NONE = -6;

    private static final int CODES = 5;
    private static final int LETTERS = 26;
    /** With 0, which is none. */
    private static final int CELLS = 64;
    private static final int POINTS = 6;
    private static final int SHORTS = 12;
    private static final int SHORT_LETTERS = 4;
    private static final int PAD_LETTERS = 10;
    private static final int PAD_CELLS = 12;
    private static final int SIGNS = 40;
    private static final int WORDS = 30;
    private static final int BOOKS = 8;
    private static final int ROWS = 12;
    private static final int READERS = 20;
    private static final int SCHOOLS = 6;
    private static final int PARTS = 7;

    private static final int MOST_WAYS = 1000000;
    private static final int MOST_OF_A_WORD = 1000;
    private static final int MOST_YEARS = 50;
    private static final int MOST_COPIES = 100;
    private static final int MOST_COIN = 1000;
    private static final int PAGE = 200;

    /** Stands for a row that can not be; two of them still add without wrapping. */
    private static final int IMPOSSIBLE = 1 << 28;

    private final Code[] codes;
    private final Pad letterPad;
    private final Pad cellPad;
    private final Pad signPad;
    private final Writer writer;
    private final Decoder decoder;
    private final Books books;
    private final Reader[] readers;
    private int readerCount;
    private final School[] schools;
    private final Fund fundPlan;
    private final Mixer mixer;

    public DotWar() {
        codes = new Code[CODES];
        for (int c = 0; c < CODES; c++) {
            codes[c] = new Code();
        }
        letterPad = new Pad(PAD_LETTERS);
        cellPad = new Pad(PAD_CELLS);
        signPad = new Pad(SIGNS);
        writer = new Writer();
        decoder = new Decoder();
        books = new Books(writer);
        readers = new Reader[READERS];
        for (int r = 0; r < READERS; r++) {
            readers[r] = new Reader();
        }
        readerCount = 0;
        schools = new School[SCHOOLS];
        for (int s = 0; s < SCHOOLS; s++) {
            schools[s] = new School();
        }
        fundPlan = new Fund();
        mixer = new Mixer(codes);
    }

    // ---- 1 codes

    public int letter(int code, int l, int cell) {
        Code c = codeAt(code);
        if (c == null || !within(l, 0, LETTERS - 1)) {
            return UNKNOWN;
        }
        if (!within(cell, 0, CELLS - 1)) {
            return OUTSIDE;
        }
        int was = c.cells[l];
        c.cells[l] = cell;
        return was;
    }

    public int say(int l) {
        if (!within(l, 0, LETTERS - 1)) {
            return UNKNOWN;
        }
        return letterPad.isFull() ? FULL : letterPad.add(l);
    }

    public int dot(int cell) {
        if (!within(cell, 1, CELLS - 1)) {
            return OUTSIDE;
        }
        return cellPad.isFull() ? FULL : cellPad.add(cell);
    }

    public int wipe(int which) {
        switch (which) {
            case 0:
                return letterPad.empty();
            case 1:
                return cellPad.empty();
            case 2:
                return signPad.empty();
            default:
                return OUTSIDE;
        }
    }

    public int abbreviate(int code) {
        Code c = codeAt(code);
        if (c == null) {
            return UNKNOWN;
        }
        if (c.shorts.isFull()) {
            return FULL;
        }
        if (!within(letterPad.size, 2, SHORT_LETTERS) || !within(cellPad.size, 1, 2)) {
            return NO;
        }
        return c.addShort(letterPad, cellPad);
    }

    public int write(int code, int i) {
        Code c = codeAt(code);
        if (c == null) {
            return UNKNOWN;
        }
        if (!writer.layOut(c, letterPad)) {
            return NO;
        }
        if (i == -1) {
            return writer.line.size;
        }
        return i == -2 ? writer.pointsOfLine() : writer.line.at(i);
    }

    public int read(int code, int i) {
        Code c = codeAt(code);
        if (c == null) {
            return UNKNOWN;
        }
        int all = decoder.countWays(c, cellPad);
        if (i == -1) {
            return all;
        }
        decoder.takeFirstWay(c, cellPad);
        return i == -2 ? decoder.firstWay.size : decoder.firstWay.at(i);
    }

    public int ways(int code, int i) {
        Code c = codeAt(code);
        if (c == null) {
            return UNKNOWN;
        }
        decoder.findTwoWays(c);
        return i == -1 ? decoder.twice.size : decoder.twice.at(i);
    }

    // ---- 2 books

    public int word() {
        if (books.words.isFull()) {
            return FULL;
        }
        return letterPad.size == 0 ? NO : books.words.take(letterPad);
    }

    public int count(int book, int word, int n) {
        if (!within(book, 0, BOOKS - 1) || !within(word, 0, books.words.count - 1)) {
            return UNKNOWN;
        }
        if (!within(n, 0, MOST_OF_A_WORD)) {
            return OUTSIDE;
        }
        int was = books.counts[book][word];
        books.counts[book][word] = n;
        return was;
    }

    public int room(int book, int code, int what) {
        Code c = codeAt(code);
        if (c == null || !within(book, 0, BOOKS - 1)) {
            return UNKNOWN;
        }
        if (!within(what, 0, 2)) {
            return OUTSIDE;
        }
        books.weighWords(c);
        if (!books.canPrint(book)) {
            return NO;
        }
        if (what == 0) {
            return books.cellsOf(book);
        }
        return what == 1 ? books.pointsOf(book) : books.pagesOf(book);
    }

    public int row() {
        if (books.rows.isFull()) {
            return FULL;
        }
        return within(letterPad.size, 2, SHORT_LETTERS) ? books.rows.take(letterPad) : NO;
    }

    public int chosen(int book, int code, int k, int what) {
        Code c = codeAt(code);
        if (c == null || !within(book, 0, BOOKS - 1)) {
            return UNKNOWN;
        }
        if (!within(k, 0, ROWS) || !within(what, 0, 1)) {
            return OUTSIDE;
        }
        int set = books.chooseRows(book, c, k);
        if (set < 0) {
            return NO;
        }
        return what == 0 ? set : books.setTotals[set];
    }

    // ---- 3 readers

    public int reader(int age, int school, boolean sighted) {
        if (schoolAt(school) == null) {
            return UNKNOWN;
        }
        if (!within(age, 5, 90)) {
            return OUTSIDE;
        }
        if (readerCount >= READERS) {
            return FULL;
        }
        Reader r = readers[readerCount];
        r.age = age;
        r.school = school;
        r.sighted = sighted ? 1 : 0;
        readerCount++;
        return readerCount - 1;
    }

    public int know(int reader, int code, int years) {
        Reader r = readerAt(reader);
        if (r == null || codeAt(code) == null) {
            return UNKNOWN;
        }
        if (!within(years, 0, MOST_YEARS)) {
            return OUTSIDE;
        }
        int was = r.years[code];
        r.years[code] = years;
        return was;
    }

    public int move(int reader, int school) {
        Reader r = readerAt(reader);
        if (r == null || schoolAt(school) == null) {
            return UNKNOWN;
        }
        int was = r.school;
        r.school = school;
        return was;
    }

    public int about(int reader, int what) {
        Reader r = readerAt(reader);
        if (r == null) {
            return UNKNOWN;
        }
        switch (what) {
            case 0:
                return r.age;
            case 1:
                return r.school;
            case 2:
                return r.sighted;
            case 3:
                return r.ownCode();
            case 4:
                return r.knownCodes();
            default:
                return within(what, 10, 10 + CODES - 1) ? r.years[what - 10] : OUTSIDE;
        }
    }

    public int near(int code, int cell) {
        Code c = codeAt(code);
        if (c == null) {
            return UNKNOWN;
        }
        return within(cell, 1, CELLS - 1) ? c.likeOf(cell) : OUTSIDE;
    }

    public int pace(int reader, int code) {
        Reader r = readerAt(reader);
        Code c = codeAt(code);
        if (r == null || c == null) {
            return UNKNOWN;
        }
        if (r.years[code] == 0) {
            return STATE;
        }
        if (!writer.layOut(c, letterPad)) {
            return NO;
        }
        int sum = 0;
        for (int i = 0; i < writer.line.size; i++) {
            int cell = writer.line.at(i);
            sum += 10 + 2 * Integer.bitCount(cell) + 3 * c.likeOf(cell);
        }
        int slowness = 100 + 300 / (r.years[code] + 1) + Math.max(0, r.age - 60);
        return sum * slowness / 100;
    }

    public int learn(int reader, int code) {
        Reader r = readerAt(reader);
        Code c = codeAt(code);
        if (r == null || c == null) {
            return UNKNOWN;
        }
        if (r.years[code] > 0) {
            return 0;
        }
        int unlike = c.unlikeLetters(codeAt(r.ownCode()));
        if (r.age > 70 && unlike >= 14) {
            return NONE;
        }
        return (2 * unlike + 3 * c.shorts.count) * (100 + r.age) / 100;
    }

    // ---- 4 shelves

    public int shelf(int school, int book, int code, int n) {
        School s = schoolAt(school);
        if (s == null || !within(book, 0, BOOKS - 1) || codeAt(code) == null) {
            return UNKNOWN;
        }
        if (!within(n, 0, MOST_COPIES)) {
            return OUTSIDE;
        }
        int was = s.copies[book][code];
        s.copies[book][code] = n;
        return was;
    }

    public int reads(int reader) {
        Reader r = readerAt(reader);
        return r == null ? UNKNOWN : readable(r);
    }

    public int school(int school, int what) {
        School s = schoolAt(school);
        if (s == null) {
            return UNKNOWN;
        }
        int here = 0;
        int without = 0;
        int known = 0;
        for (int i = 0; i < readerCount; i++) {
            Reader r = readers[i];
            if (r.school == school) {
                here++;
                known |= r.knownCodes();
                without += readable(r) == 0 ? 1 : 0;
            }
        }
        switch (what) {
            case 0:
                return without;
            case 1:
                return s.copiesBeyond(known);
            case 2:
                return here;
            case 3:
                // a copy is read by some READER here just when its CODE is known by some READER here
                return s.booksIn((1 << CODES) - 1) & ~s.booksIn(known);
            default:
                return OUTSIDE;
        }
    }

    public int fund(int coin, int what) {
        if (!within(coin, 0, MOST_COIN) || !within(what, 0, 3)) {
            return OUTSIDE;
        }
        fundPlan.clear();
        for (int code = 0; code < CODES; code++) {
            if (hopeFrom(code)) {
                books.weighWords(codes[code]);
                priceBooks();
                fundPlan.weigh(code, coin);
            }
        }
        switch (what) {
            case 0:
                return fundPlan.bestGain;
            case 1:
                return fundPlan.bestCode;
            case 2:
                return fundPlan.bestSet;
            default:
                return fundPlan.bestPrice;
        }
    }

    // ---- 5 boards

    public int sign(int s) {
        if (!within(s, 33, 126)) {
            return OUTSIDE;
        }
        return signPad.isFull() ? FULL : signPad.add(s);
    }

    public int fault() {
        return Rule.faultOf(signPad);
    }

    public int board(int school) {
        School s = schoolAt(school);
        if (s == null) {
            return UNKNOWN;
        }
        if (Rule.faultOf(signPad) != NONE) {
            return NO;
        }
        int answer = s.rule.size == 0 ? 1 : 0;
        s.rule.empty();
        for (int i = 0; i < signPad.size; i++) {
            s.rule.add(signPad.at(i));
        }
        signPad.empty();
        return answer;
    }

    public int voters(int school) {
        return schoolAt(school) == null ? UNKNOWN : votersOf(school);
    }

    public int choice(int school, boolean asked) {
        if (schoolAt(school) == null) {
            return UNKNOWN;
        }
        int some = asked ? readersOf(school) : votersOf(school);
        int first = NONE;
        int most = 0;
        for (int code = 0; code < CODES; code++) {
            int those = countOwners(code, some);
            if (those > most) {
                most = those;
                first = code;
            }
        }
        return first;
    }

    // ---- 6 a new code

    public int part(int l, int p) {
        if (!within(l, 0, LETTERS - 1)) {
            return UNKNOWN;
        }
        if (!within(p, -1, PARTS - 1)) {
            return OUTSIDE;
        }
        int was = mixer.parts[l];
        mixer.parts[l] = p;
        return was < 0 ? NONE : was;
    }

    public int mix(int digits) {
        if (!mixer.takeDigits(digits)) {
            return OUTSIDE;
        }
        return mixer.mayBe() ? 1 : 0;
    }

    public int anew(int digits) {
        if (!mixer.takeDigits(digits)) {
            return OUTSIDE;
        }
        if (!mixer.mayBe()) {
            return NO;
        }
        countAllOwners();
        return mixer.newToAll();
    }

    public int best() {
        countAllOwners();
        return mixer.findBest();
    }

    public int told(int what) {
        if (within(what, 10, 10 + CODES - 1)) {
            return codes[what - 10].shorts.count;
        }
        if (within(what, 20, 20 + CODES - 1)) {
            return codes[what - 20].letterCount();
        }
        switch (what) {
            case 0:
                return letterPad.size;
            case 1:
                return cellPad.size;
            case 2:
                return signPad.size;
            case 3:
                return books.words.count;
            case 4:
                return books.rows.count;
            case 5:
                return readerCount;
            case 6:
                return allCopies();
            default:
                return OUTSIDE;
        }
    }

    // ---- what the calls share

    private static boolean within(int number, int least, int most) {
        return number >= least && number <= most;
    }

    private Code codeAt(int code) {
        return within(code, 0, CODES - 1) ? codes[code] : null;
    }

    private Reader readerAt(int reader) {
        return within(reader, 0, readerCount - 1) ? readers[reader] : null;
    }

    private School schoolAt(int school) {
        return within(school, 0, SCHOOLS - 1) ? schools[school] : null;
    }

    private int readable(Reader r) {
        School s = schoolAt(r.school);
        return s == null ? 0 : s.booksIn(r.knownCodes());
    }

    private int readersOf(int school) {
        int bits = 0;
        for (int i = 0; i < readerCount; i++) {
            bits |= readers[i].school == school ? 1 << i : 0;
        }
        return bits;
    }

    private int votersOf(int school) {
        School s = schoolAt(school);
        int bits = 0;
        for (int i = 0; s != null && i < readerCount; i++) {
            if (readers[i].school == school && Rule.allows(s.rule, readers[i])) {
                bits |= 1 << i;
            }
        }
        return bits;
    }

    private int countOwners(int code, int some) {
        int those = 0;
        for (int i = 0; i < readerCount; i++) {
            if ((some >> i & 1) == 1 && readers[i].ownCode() == code) {
                those++;
            }
        }
        return those;
    }

    private void countAllOwners() {
        for (int code = 0; code < CODES; code++) {
            mixer.owners[code] = countOwners(code, (1 << READERS) - 1);
        }
    }

    /** Sets what each BOOK would gain in a CODE; whether any READER knows it, or its BOOKS need no weighing. */
    private boolean hopeFrom(int code) {
        Arrays.fill(fundPlan.gains, 0);
        boolean hope = false;
        for (int i = 0; i < readerCount; i++) {
            Reader r = readers[i];
            if (r.years[code] > 0) {
                int can = readable(r);
                for (int b = 0; b < BOOKS; b++) {
                    fundPlan.gains[b] += 1 - (can >> b & 1);
                }
                hope = true;
            }
        }
        return hope;
    }

    private void priceBooks() {
        for (int b = 0; b < BOOKS; b++) {
            fundPlan.prices[b] = books.canPrint(b) ? books.pagesOf(b) : IMPOSSIBLE;
        }
    }

    private int allCopies() {
        int sum = 0;
        for (int s = 0; s < SCHOOLS; s++) {
            sum += schools[s].copiesBeyond(0);
        }
        return sum;
    }

    /** A row of numbers that grows up to a fixed room. */
    private static final class Pad {
        final int[] signs;
        int size;

        Pad(int most) {
            signs = new int[Math.max(most, 0)];
            size = 0;
        }

        boolean isFull() {
            return size >= signs.length;
        }

        int add(int sign) {
            if (size < signs.length) {
                signs[size] = sign;
                size++;
            }
            return size;
        }

        int empty() {
            int held = size;
            size = 0;
            return held;
        }

        int at(int i) {
            return i >= 0 && i < size ? signs[i] : NONE;
        }
    }

    /** Numbered rows of LETTERS: WORDS, ROWS, and what SHORTS stand for. */
    private static final class Texts {
        final int width;
        final int[] letters;
        final int[] sizes;
        int count;

        Texts(int most, int width) {
            this.width = Math.max(width, 0);
            letters = new int[Math.max(most, 0) * this.width];
            sizes = new int[Math.max(most, 0)];
            count = 0;
        }

        boolean isFull() {
            return count >= sizes.length;
        }

        /** The PAD becomes the next text, and is empty then. */
        int take(Pad pad) {
            if (isFull() || pad.size > width) {
                return NO;
            }
            System.arraycopy(pad.signs, 0, letters, count * width, pad.size);
            sizes[count] = pad.size;
            pad.empty();
            count++;
            return count - 1;
        }

        boolean standsAt(int text, int[] line, int from, int end) {
            int size = sizes[text];
            if (size > end - from) {
                return false;
            }
            int start = text * width;
            for (int i = 0; i < size; i++) {
                if (letters[start + i] != line[from + i]) {
                    return false;
                }
            }
            return true;
        }
    }

    /** CELLS of LETTERS, and SHORTS. */
    private static final class Code {
        final int[] cells = new int[LETTERS];
        final Texts shorts = new Texts(SHORTS, SHORT_LETTERS);
        final int[] firsts = new int[SHORTS];
        /** 0 where the SHORT is of one CELL. */
        final int[] seconds = new int[SHORTS];

        int addShort(Pad letters, Pad signs) {
            int number = shorts.take(letters);
            if (number >= 0) {
                firsts[number] = signs.at(0);
                seconds[number] = signs.size > 1 ? signs.at(1) : 0;
                signs.empty();
            }
            return number;
        }

        int cellsOfShort(int number) {
            return seconds[number] == 0 ? 1 : 2;
        }

        int pointsOfShort(int number) {
            return Integer.bitCount(firsts[number]) + Integer.bitCount(seconds[number]);
        }

        /** The place behind a SHORT that stands at a place of a row of CELLS; NONE, if it does not. */
        int behindShort(int number, Pad line, int place) {
            if (line.at(place) != firsts[number]) {
                return NONE;
            }
            if (seconds[number] == 0) {
                return place + 1;
            }
            return line.at(place + 1) == seconds[number] ? place + 2 : NONE;
        }

        int letterCount() {
            int those = 0;
            for (int l = 0; l < LETTERS; l++) {
                those += cells[l] == 0 ? 0 : 1;
            }
            return those;
        }

        /** How many other CELLS of LETTERS differ from a CELL by just one point. */
        int likeOf(int cell) {
            long had = 0;
            for (int l = 0; l < LETTERS; l++) {
                had |= cells[l] == 0 ? 0 : 1L << cells[l];
            }
            int those = 0;
            for (int point = 0; point < POINTS; point++) {
                those += (int) (had >>> (cell ^ 1 << point) & 1);
            }
            return those;
        }

        /** LETTERS with a CELL here that is not theirs in another CODE; null: there is no other. */
        int unlikeLetters(Code other) {
            int those = 0;
            for (int l = 0; l < LETTERS; l++) {
                if (cells[l] != 0 && (other == null || other.cells[l] != cells[l])) {
                    those++;
                }
            }
            return those;
        }
    }

    /** LETTERS as WRITTEN in a CODE. */
    private static final class Writer {
        /** One CELL weighs more than all points of a row, so that one sum orders by CELLS, then points. */
        static final int CELL_WEIGHT = 1024;

        final int[] weights = new int[PAD_LETTERS + 1];
        /** The first ITEM of the best row from each place on: a SHORT's number, or SHORTS for the LETTER itself. */
        final int[] items = new int[PAD_LETTERS + 1];
        final Pad line = new Pad(2 * PAD_LETTERS);

        static int cellsOf(int weight) {
            return weight / CELL_WEIGHT;
        }

        static int pointsOf(int weight) {
            return weight % CELL_WEIGHT;
        }

        /** CELLS and points, as one weight, of some LETTERS; IMPOSSIBLE, if they can not be WRITTEN. */
        int weigh(Code code, int[] letters, int from, int size) {
            if (size < 0 || size > PAD_LETTERS || from < 0 || from > letters.length - size) {
                return IMPOSSIBLE;
            }
            weights[size] = 0;
            for (int place = size - 1; place >= 0; place--) {
                weights[place] = IMPOSSIBLE;
                for (int s = 0; s < code.shorts.count; s++) {
                    if (code.shorts.standsAt(s, letters, from + place, from + size)) {
                        int own = code.cellsOfShort(s) * CELL_WEIGHT + code.pointsOfShort(s);
                        tryItem(s, place, own, weights[place + code.shorts.sizes[s]]);
                    }
                }
                int cell = code.cells[letters[from + place]];
                if (cell != 0) {
                    tryItem(SHORTS, place, CELL_WEIGHT + Integer.bitCount(cell), weights[place + 1]);
                }
            }
            return weights[0];
        }

        private void tryItem(int item, int place, int own, int rest) {
            // only what is less replaces: of equals, the first ITEM stays
            if (rest < IMPOSSIBLE && own + rest < weights[place]) {
                weights[place] = own + rest;
                items[place] = item;
            }
        }

        /** Lays the CELLS of the PAD's LETTERS out as the line; whether they can be WRITTEN. */
        boolean layOut(Code code, Pad letters) {
            line.empty();
            if (weigh(code, letters.signs, 0, letters.size) >= IMPOSSIBLE) {
                return false;
            }
            int place = 0;
            for (int step = 0; step < PAD_LETTERS && place < letters.size; step++) {
                int item = items[place];
                if (item < SHORTS) {
                    line.add(code.firsts[item]);
                    if (code.seconds[item] != 0) {
                        line.add(code.seconds[item]);
                    }
                    place += code.shorts.sizes[item];
                } else {
                    line.add(code.cells[letters.signs[place]]);
                    place++;
                }
            }
            return true;
        }

        int pointsOfLine() {
            return pointsOf(weights[0]);
        }
    }

    /** CELLS read back: the PAD's in all ways, and the least row that is read in TWO WAYS. */
    private static final class Decoder {
        /** More links than any row can need. */
        static final int FAR = 1000;
        static final int NO_PAIR = CELLS * CELLS;

        final int[] counts = new int[PAD_CELLS + 1];
        final Pad firstWay = new Pad(PAD_CELLS * SHORT_LETTERS);
        /** How many ITEMS stand as each CELL alone. */
        final int[] singles = new int[CELLS];
        /** How many SHORTS of two CELLS, each begun by the last one's end, lead from a CELL to one that is an ITEM. */
        final int[] far = new int[CELLS];
        final Pad twice = new Pad(SHORTS + 2);

        int countWays(Code code, Pad line) {
            int size = Math.min(line.size, PAD_CELLS);
            counts[size] = 1;
            for (int place = size - 1; place >= 0; place--) {
                int sum = 0;
                for (int s = 0; s < code.shorts.count; s++) {
                    int behind = code.behindShort(s, line, place);
                    sum += behind < 0 ? 0 : counts[behind];
                }
                int cell = line.at(place);
                for (int l = 0; l < LETTERS; l++) {
                    sum += code.cells[l] == cell ? counts[place + 1] : 0;
                }
                counts[place] = Math.min(sum, MOST_WAYS);
            }
            return counts[0];
        }

        /** Follows the counts of ways, which must be there, by the first ITEM that leads to the end. */
        void takeFirstWay(Code code, Pad line) {
            firstWay.empty();
            int size = Math.min(line.size, PAD_CELLS);
            int place = 0;
            for (int step = 0; step < PAD_CELLS && place < size && counts[place] > 0; step++) {
                int s = firstShort(code, line, place);
                if (s < 0) {
                    firstWay.add(firstLetter(code, line.at(place)));
                    place++;
                } else {
                    for (int i = 0; i < code.shorts.sizes[s]; i++) {
                        firstWay.add(code.shorts.letters[s * SHORT_LETTERS + i]);
                    }
                    place += code.cellsOfShort(s);
                }
            }
        }

        private int firstShort(Code code, Pad line, int place) {
            for (int s = 0; s < code.shorts.count; s++) {
                int behind = code.behindShort(s, line, place);
                if (behind >= 0 && counts[behind] > 0) {
                    return s;
                }
            }
            return NONE;
        }

        private static int firstLetter(Code code, int cell) {
            for (int l = 0; l < LETTERS; l++) {
                if (code.cells[l] == cell) {
                    return l;
                }
            }
            return NONE;
        }

        /**
         * The least such row begins with two unlike ITEMS. They stand as the same CELLS; or one is a CELL and the other
         * that CELL and one more, which the first row must then begin its next ITEM with, and so on: a chain of SHORTS
         * of two CELLS, each begun by the last one's end, from a CELL that is an ITEM to a CELL that is one.
         */
        void findTwoWays(Code code) {
            twice.empty();
            countSingles(code);
            for (int cell = 1; cell < CELLS; cell++) {
                if (singles[cell] > 1) {
                    twice.add(cell);
                    return;
                }
            }
            measureFar(code);
            layChain(code);
            int pair = leastSharedPair(code);
            boolean isLess = twice.size != 2 || pair < twice.at(0) * CELLS + twice.at(1);
            if (pair < NO_PAIR && isLess) {
                twice.empty();
                twice.add(pair / CELLS);
                twice.add(pair % CELLS);
            }
        }

        private void countSingles(Code code) {
            Arrays.fill(singles, 0);
            for (int l = 0; l < LETTERS; l++) {
                singles[code.cells[l]]++;
            }
            // LETTERS without a CELL were counted as 0, which is none
            singles[0] = 0;
            for (int s = 0; s < code.shorts.count; s++) {
                if (code.seconds[s] == 0) {
                    singles[code.firsts[s]]++;
                }
            }
        }

        private void measureFar(Code code) {
            for (int cell = 0; cell < CELLS; cell++) {
                far[cell] = singles[cell] > 0 ? 0 : FAR;
            }
            for (int round = 0; round < SHORTS; round++) {
                for (int s = 0; s < code.shorts.count; s++) {
                    if (code.seconds[s] != 0) {
                        far[code.firsts[s]] = Math.min(far[code.firsts[s]], far[code.seconds[s]] + 1);
                    }
                }
            }
        }

        private void layChain(Code code) {
            int links = FAR;
            for (int s = 0; s < code.shorts.count; s++) {
                if (code.seconds[s] != 0 && singles[code.firsts[s]] > 0) {
                    links = Math.min(links, far[code.seconds[s]] + 1);
                }
            }
            if (links >= FAR) {
                return;
            }
            int cell = leastStart(code, links);
            twice.add(cell);
            for (int left = Math.min(links, SHORTS) - 1; left >= 0; left--) {
                cell = leastNext(code, cell, left);
                twice.add(cell);
            }
        }

        private int leastStart(Code code, int links) {
            int least = CELLS;
            for (int s = 0; s < code.shorts.count; s++) {
                int first = code.firsts[s];
                if (code.seconds[s] != 0 && singles[first] > 0 && far[code.seconds[s]] + 1 == links) {
                    least = Math.min(least, first);
                }
            }
            return least;
        }

        private int leastNext(Code code, int cell, int left) {
            int least = CELLS;
            for (int s = 0; s < code.shorts.count; s++) {
                int second = code.seconds[s];
                if (second != 0 && code.firsts[s] == cell && far[second] == left) {
                    least = Math.min(least, second);
                }
            }
            return least;
        }

        /** The first two CELLS, as one number, that two SHORTS stand as. */
        private static int leastSharedPair(Code code) {
            int least = NO_PAIR;
            for (int s = 0; s < code.shorts.count; s++) {
                for (int t = 0; t < s; t++) {
                    boolean same = code.firsts[s] == code.firsts[t] && code.seconds[s] == code.seconds[t];
                    if (same && code.seconds[s] != 0) {
                        least = Math.min(least, code.firsts[s] * CELLS + code.seconds[s]);
                    }
                }
            }
            return least;
        }
    }

    /** WORDS and how often they are in BOOKS, ROOM; ROWS, and which of them are CHOSEN. */
    private static final class Books {
        final Writer writer;
        final Texts words = new Texts(WORDS, PAD_LETTERS);
        final int[][] counts = new int[BOOKS][WORDS];
        final int[] weights = new int[WORDS];
        final Texts rows = new Texts(ROWS, SHORT_LETTERS);
        /** The ROW, as a bit, of each length that stands at each place of a WORD; 0: none. */
        final int[] rowsAt = new int[PAD_LETTERS * (SHORT_LETTERS + 1)];
        final int[] cellsFrom = new int[PAD_LETTERS + 1];
        final int[] setCells = new int[1 << ROWS];
        final int[] setTotals = new int[1 << ROWS];

        Books(Writer writer) {
            this.writer = writer;
        }

        /** Weighs all WORDS in a CODE; what a BOOK takes is told of these weights. */
        void weighWords(Code code) {
            for (int w = 0; w < words.count; w++) {
                weights[w] = writer.weigh(code, words.letters, w * PAD_LETTERS, words.sizes[w]);
            }
        }

        boolean canPrint(int book) {
            for (int w = 0; w < words.count; w++) {
                if (counts[book][w] > 0 && weights[w] >= IMPOSSIBLE) {
                    return false;
                }
            }
            return true;
        }

        int cellsOf(int book) {
            int sum = 0;
            for (int w = 0; w < words.count; w++) {
                sum += counts[book][w] * Writer.cellsOf(weights[w]);
            }
            return sum;
        }

        int pointsOf(int book) {
            int sum = 0;
            for (int w = 0; w < words.count; w++) {
                sum += counts[book][w] * Writer.pointsOf(weights[w]);
            }
            return sum;
        }

        int pagesOf(int book) {
            return (cellsOf(book) + PAGE - 1) / PAGE;
        }

        /** The CHOSEN set (its CELLS stand in the totals); NONE, if no set will do. */
        int chooseRows(int book, Code code, int most) {
            int useful = usefulRows(book);
            int sets = 1 << Integer.bitCount(useful);
            sumSets(book, code, useful, most);
            int best = NONE;
            int bestTotal = IMPOSSIBLE;
            int bestSize = 0;
            int set = 0;
            for (int i = 0; i < sets; i++) {
                int size = Integer.bitCount(set);
                boolean better = setTotals[set] < bestTotal || setTotals[set] == bestTotal && size < bestSize;
                if (size <= most && better) {
                    best = set;
                    bestTotal = setTotals[set];
                    bestSize = size;
                }
                set = nextSet(set, useful);
            }
            return best;
        }

        /** The next greater set of some ROWS, all sets of which are gone through from 0 on. */
        private static int nextSet(int set, int some) {
            return set - some & some;
        }

        private static int times(int n, int cells) {
            return cells >= IMPOSSIBLE ? IMPOSSIBLE : n * cells;
        }

        /** ROWS that stand in some WORD of a BOOK, the first of those that are alike: no other can save a CELL. */
        private int usefulRows(int book) {
            int useful = 0;
            for (int w = 0; w < words.count; w++) {
                useful |= counts[book][w] > 0 ? placeRows(w) : 0;
            }
            return useful;
        }

        /** CELLS of a BOOK for each set of useful ROWS that is not above the most. */
        private void sumSets(int book, Code code, int useful, int most) {
            int sets = 1 << Integer.bitCount(useful);
            Arrays.fill(setTotals, 0);
            for (int w = 0; w < words.count; w++) {
                int n = counts[book][w];
                if (n > 0) {
                    int inside = placeRows(w);
                    measureSets(w, code, inside, most);
                    int set = 0;
                    for (int i = 0; i < sets; i++) {
                        if (Integer.bitCount(set) <= most) {
                            setTotals[set] = Math.min(IMPOSSIBLE, setTotals[set] + times(n, setCells[set & inside]));
                        }
                        set = nextSet(set, useful);
                    }
                }
            }
        }

        /** Finds where ROWS stand in a WORD; which do, as bits. */
        private int placeRows(int word) {
            Arrays.fill(rowsAt, 0);
            int inside = 0;
            int from = word * PAD_LETTERS;
            for (int place = 0; place < words.sizes[word]; place++) {
                for (int r = 0; r < rows.count; r++) {
                    int at = place * (SHORT_LETTERS + 1) + rows.sizes[r];
                    if (rowsAt[at] == 0 && rows.standsAt(r, words.letters, from + place, from + words.sizes[word])) {
                        rowsAt[at] = 1 << r;
                        inside |= 1 << r;
                    }
                }
            }
            return inside;
        }

        /** CELLS of a WORD for each set of the ROWS inside it. */
        private void measureSets(int word, Code code, int inside, int most) {
            int sets = 1 << Integer.bitCount(inside);
            int set = 0;
            for (int i = 0; i < sets; i++) {
                if (Integer.bitCount(set) <= most) {
                    setCells[set] = cellsWith(word, code, set);
                }
                set = nextSet(set, inside);
            }
        }

        private int cellsWith(int word, Code code, int set) {
            int size = words.sizes[word];
            cellsFrom[size] = 0;
            for (int place = size - 1; place >= 0; place--) {
                boolean has = code.cells[words.letters[word * PAD_LETTERS + place]] != 0;
                int least = has ? cellsFrom[place + 1] : IMPOSSIBLE;
                for (int length = 2; length <= SHORT_LETTERS; length++) {
                    // a ROW stands only where the WORD goes on that far, so the place behind it is in the WORD
                    if ((rowsAt[place * (SHORT_LETTERS + 1) + length] & set) != 0) {
                        least = Math.min(least, cellsFrom[place + length]);
                    }
                }
                cellsFrom[place] = Math.min(IMPOSSIBLE, least + 1);
            }
            return cellsFrom[0];
        }
    }

    private static final class Reader {
        int age;
        int school;
        int sighted;
        final int[] years = new int[CODES];

        int ownCode() {
            int own = NONE;
            int most = 0;
            for (int c = 0; c < CODES; c++) {
                if (years[c] > most) {
                    most = years[c];
                    own = c;
                }
            }
            return own;
        }

        int mostYears() {
            int most = 0;
            for (int c = 0; c < CODES; c++) {
                most = Math.max(most, years[c]);
            }
            return most;
        }

        int knownCodes() {
            int bits = 0;
            for (int c = 0; c < CODES; c++) {
                bits |= years[c] > 0 ? 1 << c : 0;
            }
            return bits;
        }
    }

    /** Copies that stand at a SCHOOL, and the RULE of its board (no signs: it has none). */
    private static final class School {
        final int[][] copies = new int[BOOKS][CODES];
        final Pad rule = new Pad(SIGNS);

        /** BOOKS with a copy in one of some CODES, as bits. */
        int booksIn(int some) {
            int bits = 0;
            for (int b = 0; b < BOOKS; b++) {
                for (int c = 0; c < CODES; c++) {
                    if ((some >> c & 1) == 1 && copies[b][c] > 0) {
                        bits |= 1 << b;
                    }
                }
            }
            return bits;
        }

        /** How many copies are in none of some CODES. */
        int copiesBeyond(int some) {
            int sum = 0;
            for (int b = 0; b < BOOKS; b++) {
                for (int c = 0; c < CODES; c++) {
                    sum += (some >> c & 1) == 1 ? 0 : copies[b][c];
                }
            }
            return sum;
        }
    }

    /** The small texts of boards: what they must look like, and whom they let VOTE. */
    private static final class Rule {
        static final int WANTS_SUBJECT = 0;
        static final int WANTS_SIGN = 1;
        static final int WANTS_DIGIT = 2;
        static final int ONE_DIGIT = 3;
        static final int THREE_DIGITS = 5;

        static int faultOf(Pad signs) {
            int state = WANTS_SUBJECT;
            for (int i = 0; i < signs.size; i++) {
                state = stateAfter(state, signs.at(i));
                if (state == NONE) {
                    return i;
                }
            }
            return state >= ONE_DIGIT ? NONE : signs.size;
        }

        /** What is wanted or was had behind one more sign; NONE, if it may not stand there. */
        private static int stateAfter(int state, int sign) {
            if (state == WANTS_SUBJECT) {
                return isSubject(sign) ? WANTS_SIGN : NONE;
            }
            if (state == WANTS_SIGN) {
                return isComparison(sign) ? WANTS_DIGIT : NONE;
            }
            if (isDigit(sign)) {
                return state < THREE_DIGITS ? state + 1 : NONE;
            }
            return state >= ONE_DIGIT && isJoint(sign) ? WANTS_SUBJECT : NONE;
        }

        private static boolean isSubject(int sign) {
            return sign == 'a' || sign == 'y' || sign == 'k' || sign == 's';
        }

        private static boolean isComparison(int sign) {
            return sign == '<' || sign == '>' || sign == '=';
        }

        private static boolean isDigit(int sign) {
            return sign >= '0' && sign <= '9';
        }

        private static boolean isJoint(int sign) {
            return sign == '&' || sign == '|';
        }

        /** Whether some CLAUSE's TESTS are all so for a READER; the signs must be without a FAULT, or none. */
        static boolean allows(Pad signs, Reader reader) {
            boolean clause = signs.size > 0;
            int subject = 0;
            int comparison = 0;
            int number = 0;
            for (int i = 0; i < signs.size; i++) {
                int sign = signs.at(i);
                if (isDigit(sign)) {
                    number = number * 10 + sign - '0';
                } else if (isComparison(sign)) {
                    comparison = sign;
                } else if (isSubject(sign)) {
                    subject = valueOf(sign, reader);
                } else {
                    clause = clause && holds(subject, comparison, number);
                    number = 0;
                    if (sign == '|') {
                        if (clause) {
                            return true;
                        }
                        clause = true;
                    }
                }
            }
            return clause && holds(subject, comparison, number);
        }

        private static int valueOf(int subject, Reader reader) {
            switch (subject) {
                case 'a':
                    return reader.age;
                case 'y':
                    return reader.mostYears();
                case 'k':
                    return Integer.bitCount(reader.knownCodes());
                default:
                    return reader.sighted;
            }
        }

        private static boolean holds(int value, int comparison, int number) {
            if (comparison == '<') {
                return value < number;
            }
            return comparison == '>' ? value > number : value == number;
        }
    }

    /** What coin buys best: CODE by CODE, the gains and prices of BOOKS are set, then weighed. */
    private static final class Fund {
        final int[] gains = new int[BOOKS];
        final int[] prices = new int[BOOKS];
        int bestGain;
        int bestCode;
        int bestSet;
        int bestPrice;

        void clear() {
            bestGain = 0;
            bestCode = NONE;
            bestSet = 0;
            bestPrice = 0;
        }

        void weigh(int code, int coin) {
            int affordable = affordableBooks(coin);
            for (int set = 1; set < 1 << BOOKS; set++) {
                if ((set & ~affordable) == 0) {
                    weighSet(code, coin, set);
                }
            }
        }

        private int affordableBooks(int coin) {
            int bits = 0;
            for (int b = 0; b < BOOKS; b++) {
                bits |= prices[b] <= coin ? 1 << b : 0;
            }
            return bits;
        }

        private void weighSet(int code, int coin, int set) {
            int gain = 0;
            int price = 0;
            for (int b = 0; b < BOOKS; b++) {
                if ((set >> b & 1) == 1) {
                    gain += gains[b];
                    price += prices[b];
                }
            }
            // a later CODE must gain more; only within one CODE may a cheaper set replace
            boolean better = gain > bestGain || gain == bestGain && code == bestCode && price < bestPrice;
            if (price <= coin && better) {
                bestGain = gain;
                bestCode = code;
                bestSet = set;
                bestPrice = price;
            }
        }
    }

    /** PARTS of LETTERS, and MIXES: which may be, what is ANEW in them, which is THE BEST. */
    private static final class Mixer {
        /** No CELL has this bit; PARTS that can not be of a CODE do. */
        static final long UNFIT = 1;

        final Code[] codes;
        /** -1: of none. */
        final int[] parts = new int[LETTERS];
        /** How many READERS have each CODE as their OWN; set before ANEW is asked. */
        final int[] owners = new int[CODES];
        final int[] picks = new int[PARTS];
        /** CELLS of each PART by each CODE, as bits; 0: the PART has no LETTERS. */
        final long[] cellBits = new long[PARTS * CODES];
        final int[] costs = new int[PARTS * CODES];
        /** The least that this PART and those behind it can cost. */
        final int[] leastFrom = new int[PARTS + 1];
        int bestCost;
        int bestDigits;

        Mixer(Code[] codes) {
            this.codes = codes;
            Arrays.fill(parts, -1);
        }

        /** Takes a MIX apart into the CODES of PARTS; whether the digits are such. */
        boolean takeDigits(int digits) {
            if (digits < 0) {
                return false;
            }
            int rest = digits;
            for (int p = PARTS - 1; p >= 0; p--) {
                picks[p] = rest % 10;
                if (picks[p] >= CODES) {
                    return false;
                }
                rest /= 10;
            }
            return rest == 0;
        }

        boolean mayBe() {
            long used = 0;
            for (int l = 0; l < LETTERS; l++) {
                if (parts[l] >= 0) {
                    long cell = cellBit(codes[picks[parts[l]]].cells[l], used);
                    if (cell == UNFIT) {
                        return false;
                    }
                    used |= cell;
                }
            }
            return true;
        }

        /** The bit of a CELL; UNFIT, if there is none or it is used. */
        private static long cellBit(int cell, long used) {
            return cell == 0 || (used >>> cell & 1) == 1 ? UNFIT : 1L << cell;
        }

        int newToAll() {
            int sum = 0;
            for (int l = 0; l < LETTERS; l++) {
                if (parts[l] >= 0) {
                    sum += strangersTo(l, codes[picks[parts[l]]].cells[l]);
                }
            }
            return sum;
        }

        private int strangersTo(int letter, int cell) {
            int those = 0;
            for (int c = 0; c < CODES; c++) {
                those += codes[c].cells[letter] == cell ? 0 : owners[c];
            }
            return those;
        }

        int findBest() {
            for (int p = 0; p < PARTS; p++) {
                for (int c = 0; c < CODES; c++) {
                    weighPart(p, c);
                }
            }
            sumLeast();
            bestCost = IMPOSSIBLE;
            bestDigits = NO;
            search(0, 0, 0, 0);
            return bestDigits;
        }

        private void weighPart(int part, int code) {
            long used = 0;
            int cost = 0;
            for (int l = 0; l < LETTERS; l++) {
                if (parts[l] == part) {
                    int cell = codes[code].cells[l];
                    used |= cellBit(cell, used);
                    cost += strangersTo(l, cell);
                }
            }
            cellBits[part * CODES + code] = used;
            costs[part * CODES + code] = cost;
        }

        private void sumLeast() {
            leastFrom[PARTS] = 0;
            for (int p = PARTS - 1; p >= 0; p--) {
                int least = IMPOSSIBLE;
                for (int c = 0; c < CODES; c++) {
                    if ((cellBits[p * CODES + c] & UNFIT) == 0) {
                        least = Math.min(least, costs[p * CODES + c]);
                    }
                }
                leastFrom[p] = Math.min(IMPOSSIBLE, leastFrom[p + 1] + least);
            }
        }

        /** Goes through MIXES in their order, so that only one with less ANEW may replace; as deep as there are PARTS. */
        private void search(int part, long used, int cost, int digits) {
            if (part >= PARTS) {
                bestCost = cost;
                bestDigits = digits;
                return;
            }
            for (int c = 0; c < CODES; c++) {
                long cells = cellBits[part * CODES + c];
                int sum = cost + costs[part * CODES + c];
                if ((cells & (used | UNFIT)) == 0 && sum + leastFrom[part + 1] < bestCost) {
                    search(part + 1, used | cells, sum, digits * 10 + c);
                }
                if (cells == 0) {
                    // a PART without LETTERS is 0, and another CODE would change nothing
                    return;
                }
            }
        }
    }
}
