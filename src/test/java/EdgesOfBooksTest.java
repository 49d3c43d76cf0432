/** Promises 10 to 14: their sentences, those that name boundary cases before all, each by a test of its own. */
public final class EdgesOfBooksTest extends Edges {
    private EdgesOfBooksTest() {
    }

    public static void main(String[] args) throws Exception {
        run(EdgesOfBooksTest.class, args);
    }

    /** A code whose only item is the letter a, and a book of so many cells by it. */
    private static DotWar bookOf(int cells) {
        DotWar x = new DotWar();
        x.letter(0, 0, 1);
        wordOf(x, "a");
        wordOf(x, "aaaaaaaaaa");
        x.count(0, 0, cells % 10);
        x.count(0, 1, cells / 10);
        return x;
    }

    // ---- 10 word

    @Sentence(of = 10, says = "WORDS, 30 at most, numbered from 0 on: 1 to 10 LETTERS.")
    static void wordThirtyAtMost() {
        DotWar x = new DotWar();
        for (int i = 0; i < 30; i++) {
            due("word " + i, wordOf(x, "ab"), i);
            due("words", x.told(3), i + 1);
        }
        due("the thirty-first", wordOf(x, "ab"), FULL);
        refused("full", FILLED, y -> y.word(), FULL);
    }

    @Sentence(of = 10, says = "WORDS, 30 at most, numbered from 0 on: 1 to 10 LETTERS.")
    static void wordOf1To10Letters() {
        for (int size = 1; size <= 10; size++) {
            DotWar x = new DotWar();
            x.letter(0, 0, 3);
            due("of " + size, wordOf(x, "aaaaaaaaaa".substring(0, size)), 0);
            x.count(0, 0, 1);
            due("its cells", x.room(0, 0, 0), size);
            due("its points", x.room(0, 0, 1), 2 * size);
        }
    }

    @Sentence(of = 10, says = "NO: the PAD is empty.")
    static void wordOfNoLetters() {
        refused("a new pad", NEW, x -> x.word(), NO);
        refused("a pad that was emptied", then(ORDINARY, x -> x.wipe(0)), x -> x.word(), NO);
        DotWar x = new DotWar();
        x.dot(1);
        x.sign(33);
        due("cells and signs are no letters", x.word(), NO);
        x.say(0);
        due("one letter", x.word(), 0);
        due("it is taken once", x.word(), NO);
    }

    @Sentence(of = 10, says = "A WORD of the PAD (it is empty then): its number.")
    static void wordEmptiesTheLettersAlone() {
        DotWar x = made(ORDINARY);
        due("its number", x.word(), 3);
        due("letters", x.told(0), 0);
        due("cells", x.told(1), 3);
        due("signs", x.told(2), 4);
        x.count(5, 3, 1);
        due("its letters are those of the pad", x.room(5, 3, 1), 5);
        due("the next", wordOf(x, "a"), 4);
        due("the earlier stays as it was", x.room(5, 3, 1), 5);
    }

    @Sentence(of = 10, says = "Calls that are refused answer, the first of these that fits")
    static void wordFullBeforeNo() {
        refused("full and empty", then(FILLED, x -> x.wipe(0)), x -> x.word(), FULL);
    }

    // ---- 11 count

    @Sentence(of = 11, says = "BOOKS 0 to 7: how often each WORD (0 to 1000; 0 at first)")
    static void countInBooks0To7() {
        Setup one = then(NEW, x -> wordOf(x, "a"));
        taken("book", 0, 7, one, (x, book) -> x.count(book, 0, 1), 0);
        refusedBeyond("book", 0, 7, ORDINARY, (x, book) -> x.count(book, 0, 1), UNKNOWN);
    }

    @Sentence(of = 11, says = "WORDS, 30 at most, numbered from 0 on")
    static void countOfWordsThatAre() {
        taken("word", 0, 28, FILLED, (x, word) -> x.count(7, word, 1), 0);
        due("the last word", made(FILLED).count(7, 29, 1), 1000);
        refusedBeyond("word of thirty", 0, 29, FILLED, (x, word) -> x.count(7, word, 1), UNKNOWN);
        refusedBeyond("word of three", 0, 2, ORDINARY, (x, word) -> x.count(0, word, 1), UNKNOWN);
        refused("word 0 of none", NEW, x -> x.count(0, 0, 0), UNKNOWN);
        DotWar x = new DotWar();
        wordOf(x, "a");
        due("the second", x.count(0, 1, 5), UNKNOWN);
        wordOf(x, "b");
        due("now there is one, and 0 at first", x.count(0, 1, 5), 0);
    }

    @Sentence(of = 11, says = "how often each WORD (0 to 1000; 0 at first)")
    static void count0To1000() {
        Setup one = then(NEW, x -> wordOf(x, "a"));
        taken("n", 0, 1000, one, (x, n) -> x.count(0, 0, n), 0);
        refusedBeyond("n", 0, 1000, ORDINARY, (x, n) -> x.count(0, 0, n), OUTSIDE);
    }

    @Sentence(of = 11, says = "How often a WORD is in a BOOK: how often it was.")
    static void countTellsHowOftenItWas() {
        DotWar x = made(then(NEW, y -> wordOf(y, "a")));
        int was = 0;
        for (int n : new int[] {1000, 999, 255, 256, 1, 0, 0, 1000}) {
            due("it was", x.count(7, 0, n), was);
            was = n;
        }
        due("another book", x.count(6, 0, 1), 0);
        wordOf(x, "a");
        due("another word", x.count(7, 1, 1), 0);
    }

    @Sentence(of = 11, says = "Calls that are refused answer, the first of these that fits")
    static void countUnknownBeforeOutside() {
        refused("book and n", ORDINARY, x -> x.count(8, 0, 1001), UNKNOWN);
        refused("word and n", ORDINARY, x -> x.count(0, 3, -1), UNKNOWN);
        refused("all three", ORDINARY, x -> x.count(-1, -1, -1), UNKNOWN);
    }

    // ---- 12 room

    @Sentence(of = 12, says = "BOOKS 0 to 7: how often each WORD")
    static void roomOfBooks0To7() {
        taken("book", 0, 7, NEW, (x, book) -> x.room(book, 0, 0), 0);
        refusedBeyond("book", 0, 7, ORDINARY, (x, book) -> x.room(book, 0, 0), UNKNOWN);
    }

    @Sentence(of = 12, says = "CODES 0 to 4 give LETTERS CELLS")
    static void roomByCodes0To4() {
        taken("code", 0, 4, NEW, (x, code) -> x.room(0, code, 0), 0);
        refusedBeyond("code", 0, 4, ORDINARY, (x, code) -> x.room(0, code, 0), UNKNOWN);
    }

    @Sentence(of = 12, says = "ROOM: CELLS (what = 0), points (1), pages (2). UNKNOWN; OUTSIDE")
    static void roomWhat0To2() {
        DotWar x = made(ORDINARY);
        due("cells", x.room(0, 3, 0), 3030);
        due("points", x.room(0, 3, 1), 4040);
        due("pages", x.room(0, 3, 2), 16);
        refusedBeyond("what", 0, 2, ORDINARY, (y, what) -> y.room(0, 3, what), OUTSIDE);
    }

    @Sentence(of = 12, says = "pages (200 CELLS each, the last one perhaps not full)")
    static void roomPagesOf200() {
        int[][] due = {{0, 0}, {1, 1}, {199, 1}, {200, 1}, {201, 2}, {399, 2}, {400, 2}, {401, 3}, {10000, 50}, {10001, 51},
            {10009, 51}};
        for (int[] one : due) {
            due("pages of " + one[0], bookOf(one[0]).room(0, 0, 2), one[1]);
            due("cells of " + one[0], bookOf(one[0]).room(0, 0, 0), one[0]);
        }
    }

    @Sentence(of = 12, says = "ROOM of a BOOK by a CODE: CELLS of all WORDS as WRITTEN, their points, pages")
    static void roomOfTheMost() {
        DotWar x = new DotWar();
        x.letter(4, 25, 63);
        for (int w = 0; w < 30; w++) {
            wordOf(x, "zzzzzzzzzz");
            x.count(7, w, 1000);
        }
        due("cells", x.room(7, 4, 0), 300000);
        due("points", x.room(7, 4, 1), 1800000);
        due("pages", x.room(7, 4, 2), 1500);
        due("another book", x.room(6, 4, 2), 0);
        x.count(7, 29, 999);
        due("one word less", x.room(7, 4, 0), 299990);
        x.count(7, 0, 0);
        due("a thousand less", x.room(7, 4, 0), 289990);
    }

    @Sentence(of = 12, says = "NO: a WORD in it can not be WRITTEN.")
    static void roomOfAWordThatCanNotBe() {
        DotWar x = new DotWar();
        x.letter(0, 0, 1);
        wordOf(x, "a");
        wordOf(x, "ab");
        due("an empty book", x.room(0, 0, 0), 0);
        due("an empty book by a code of nothing", x.room(0, 1, 2), 0);
        x.count(0, 0, 1);
        due("the other word is not in it", x.room(0, 0, 0), 1);
        x.count(0, 1, 1);
        for (int what = 0; what < 3; what++) {
            due("once", x.room(0, 0, what), NO);
        }
        x.count(0, 1, 0);
        due("no more", x.room(0, 0, 0), 1);
        x.count(1, 1, 1);
        due("in another book", x.room(0, 0, 0), 1);
        due("in that one", x.room(1, 0, 0), NO);
        shortOf(x, 0, "ab", 9, 9);
        due("by a short", x.room(1, 0, 0), 2);
        for (int word = 0; word < 30; word++) {
            DotWar y = made(FILLED);
            y.count(7, 29, 0);
            y.count(7, word, 1);
            due("word " + word + " alone, by a code of nothing", y.room(7, 4, 0), NO);
            due("word " + word + " alone", y.room(7, 3, 0), 1);
        }
        refused("changes nothing", ORDINARY, y -> y.room(3, 0, 0), NO);
        refused("by a code of nothing", ORDINARY, y -> y.room(0, 2, 1), NO);
    }

    @Sentence(of = 12, says = "Calls that are refused answer, the first of these that fits")
    static void roomUnknownOutsideNo() {
        refused("book and what", ORDINARY, x -> x.room(8, 0, 3), UNKNOWN);
        refused("code and what", ORDINARY, x -> x.room(0, 5, -1), UNKNOWN);
        refused("code, and it could not be", ORDINARY, x -> x.room(3, -1, 0), UNKNOWN);
        refused("what, and it could not be", ORDINARY, x -> x.room(3, 0, 3), OUTSIDE);
    }

    // ---- 13 row

    @Sentence(of = 13, says = "ROWS, 12 at most, numbered from 0 on: 2 to 4 LETTERS that may get a CELL of their own.")
    static void rowTwelveAtMost() {
        DotWar x = new DotWar();
        for (int i = 0; i < 12; i++) {
            due("row " + i, rowOf(x, "abcd"), i);
            due("rows", x.told(4), i + 1);
        }
        due("the thirteenth", rowOf(x, "ab"), FULL);
        refused("full", then(FILLED, y -> pad(y, "abc")), y -> y.row(), FULL);
    }

    @Sentence(of = 13, says = "NO: there are not 2 to 4 LETTERS.")
    static void rowOf2To4Letters() {
        for (int size = 0; size <= 10; size++) {
            DotWar x = new DotWar();
            boolean fits = size >= 2 && size <= 4;
            due("of " + size, rowOf(x, "abcdefghij".substring(0, size)), fits ? 0 : NO);
            due("letters then", x.told(0), fits ? 0 : size);
            due("rows then", x.told(4), fits ? 1 : 0);
        }
        refused("none", then(ORDINARY, x -> x.wipe(0)), x -> x.row(), NO);
        refused("one", then(ORDINARY, x -> pad(x, "a")), x -> x.row(), NO);
        refused("five", then(ORDINARY, x -> pad(x, "abcde")), x -> x.row(), NO);
        refused("ten", then(ORDINARY, x -> pad(x, "abcdefghij")), x -> x.row(), NO);
    }

    @Sentence(of = 13, says = "A ROW of the PAD (it is empty then): its number.")
    static void rowEmptiesTheLettersAlone() {
        DotWar x = made(ORDINARY);
        due("its number", x.row(), 2);
        due("letters", x.told(0), 0);
        due("cells", x.told(1), 3);
        due("signs", x.told(2), 4);
        due("it is no short", x.told(10), 2);
        due("it is no word", x.told(3), 3);
        wordOf(x, "abcdabcd");
        x.count(5, 3, 1);
        due("its letters are those of the pad", x.chosen(5, 3, 12, 0), 4);
    }

    @Sentence(of = 13, says = "Calls that are refused answer, the first of these that fits")
    static void rowFullBeforeNo() {
        refused("full and empty", then(FILLED, x -> x.wipe(0)), x -> x.row(), FULL);
        refused("full and too many", FILLED, x -> x.row(), FULL);
    }

    // ---- 14 chosen

    @Sentence(of = 14, says = "BOOKS 0 to 7: how often each WORD")
    static void chosenForBooks0To7() {
        taken("book", 0, 7, NEW, (x, book) -> x.chosen(book, 0, 12, 1), 0);
        refusedBeyond("book", 0, 7, ORDINARY, (x, book) -> x.chosen(book, 0, 0, 0), UNKNOWN);
    }

    @Sentence(of = 14, says = "CODES 0 to 4 give LETTERS CELLS")
    static void chosenByCodes0To4() {
        taken("code", 0, 4, NEW, (x, code) -> x.chosen(0, code, 12, 1), 0);
        refusedBeyond("code", 0, 4, ORDINARY, (x, code) -> x.chosen(0, code, 0, 0), UNKNOWN);
    }

    @Sentence(of = 14, says = "CHOSEN for a BOOK by a CODE, k at most (0 to 12)")
    static void chosenK0To12() {
        taken("k", 0, 12, NEW, (x, k) -> x.chosen(0, 0, k, 0), 0);
        refusedBeyond("k", 0, 12, ORDINARY, (x, k) -> x.chosen(0, 3, k, 0), OUTSIDE);
    }

    @Sentence(of = 14, says = "CHOSEN: the set, as bits (what = 0), CELLS then (1). UNKNOWN; OUTSIDE: k, what")
    static void chosenWhat0To1() {
        DotWar x = made(ORDINARY);
        due("the set", x.chosen(0, 3, 12, 0), 2);
        due("cells", x.chosen(0, 3, 12, 1), 3010);
        refusedBeyond("what", 0, 1, ORDINARY, (y, what) -> y.chosen(0, 3, 12, what), OUTSIDE);
    }

    @Sentence(of = 14, says = "CHOSEN for a BOOK by a CODE, k at most (0 to 12)")
    static void chosenKAtMost() {
        DotWar x = new DotWar();
        for (int l = 0; l < 24; l++) {
            x.letter(0, l, 1);
        }
        for (int i = 0; i < 12; i++) {
            String two = "" + (char) ('a' + 2 * i) + (char) ('b' + 2 * i);
            rowOf(x, two);
            wordOf(x, two);
            x.count(0, i, 1);
        }
        for (int k = 0; k <= 12; k++) {
            due("k " + k + ": the least as bits", x.chosen(0, 0, k, 0), (1 << k) - 1);
            due("k " + k + ": each saves a cell", x.chosen(0, 0, k, 1), 24 - k);
        }
        x.count(0, 11, 2);
        due("the last saves most", x.chosen(0, 0, 1, 0), 2048);
        x.count(0, 11, 0);
        due("eleven will do", x.chosen(0, 0, 12, 0), 2047);
    }

    @Sentence(of = 14, says = "the set with the fewest CELLS for the BOOK, of several the fewest ROWS, then the least as bits")
    static void chosenTies() {
        DotWar x = new DotWar();
        alphabet(x, 0, 1, 2, 3, 4);
        wordOf(x, "abcd");
        x.count(0, 0, 1);
        rowOf(x, "zz");
        due("none that saves nothing", x.chosen(0, 0, 12, 0), 0);
        rowOf(x, "ab");
        rowOf(x, "cd");
        due("both", x.chosen(0, 0, 12, 0), 6);
        due("one: the least", x.chosen(0, 0, 1, 0), 2);
        rowOf(x, "abc");
        due("one that saves more", x.chosen(0, 0, 1, 0), 8);
        due("two: as many cells as one", x.chosen(0, 0, 2, 0), 8);
        x.letter(0, 0, 0);
        x.letter(0, 3, 0);
        due("two that must be", x.chosen(0, 0, 2, 0), 6);
        x.letter(0, 3, 5);
        due("fewer rows with as many cells", x.chosen(0, 0, 12, 0), 8);
        rowOf(x, "abcd");
        due("fewer cells", x.chosen(0, 0, 12, 0), 16);
        due("one cell", x.chosen(0, 0, 12, 1), 1);
    }

    @Sentence(of = 14, says = "of several the fewest ROWS, then the least as bits")
    static void chosenFewestRowsBeforeLeastBits() {
        DotWar x = new DotWar();
        alphabet(x, 0, 1, 2, 3, 4, 5, 6);
        wordOf(x, "abcd");
        wordOf(x, "ef");
        wordOf(x, "bc");
        x.count(0, 0, 1);
        x.count(0, 1, 1);
        rowOf(x, "ab");
        rowOf(x, "cd");
        rowOf(x, "abc");
        rowOf(x, "bcd");
        due("abcd by two cells, ef by two: one row is enough", x.chosen(0, 0, 12, 0), 4);
        due("four cells", x.chosen(0, 0, 12, 1), 4);
        rowOf(x, "ef");
        due("and one for ef", x.chosen(0, 0, 12, 0), 20);
        due("of two alike, the first", x.chosen(0, 0, 12, 1), 3);
    }

    @Sentence(of = 14, says = "with LETTERS of the CODE (none of its SHORTS), and chosen ROWS of one CELL each")
    static void chosenWithoutShorts() {
        DotWar x = new DotWar();
        alphabet(x, 0, 1, 2, 3, 4);
        shortOf(x, 0, "abcd", 1);
        wordOf(x, "abcd");
        x.count(0, 0, 1000);
        due("room by the short", x.room(0, 0, 0), 1000);
        due("chosen without it", x.chosen(0, 0, 12, 1), 4000);
        rowOf(x, "cd");
        due("a row of one cell", x.chosen(0, 0, 12, 1), 3000);
        x.letter(0, 0, 0);
        due("the short does not help", x.chosen(0, 0, 12, 1), NO);
        due("though it can be written", x.room(0, 0, 0), 1000);
    }

    @Sentence(of = 14, says = "NO: a WORD could not be WRITTEN whatever is chosen.")
    static void chosenWhateverIsChosen() {
        DotWar x = new DotWar();
        x.letter(0, 0, 1);
        wordOf(x, "abab");
        due("an empty book", x.chosen(0, 0, 0, 1), 0);
        x.count(0, 0, 1);
        due("no row", x.chosen(0, 0, 12, 0), NO);
        rowOf(x, "ba");
        due("a row that leaves a letter", x.chosen(0, 0, 12, 0), NO);
        rowOf(x, "ab");
        due("the row that does it", x.chosen(0, 0, 12, 0), 2);
        due("two cells", x.chosen(0, 0, 1, 1), 2);
        wordOf(x, "z");
        due("a word that is not in the book", x.chosen(0, 0, 12, 1), 2);
        x.count(0, 1, 1);
        due("a word that no row writes", x.chosen(0, 0, 12, 1), NO);
        refused("the set", then(NEW, EdgesOfBooksTest::hopeless), y -> y.chosen(0, 0, 12, 0), NO);
        refused("cells", then(NEW, EdgesOfBooksTest::hopeless), y -> y.chosen(0, 0, 0, 1), NO);
        refused("a code of nothing", ORDINARY, y -> y.chosen(3, 2, 12, 1), NO);
    }

    private static void hopeless(DotWar x) {
        wordOf(x, "abz");
        x.count(0, 0, 1);
        rowOf(x, "ab");
    }

    @Sentence(of = 14, says = "the set with the fewest CELLS for the BOOK")
    static void chosenOfTheMost() {
        DotWar x = new DotWar();
        x.letter(0, 0, 1);
        x.letter(0, 1, 2);
        for (int w = 0; w < 30; w++) {
            wordOf(x, "aaaaaaaaab");
            x.count(7, w, 1000);
        }
        due("no rows", x.chosen(7, 0, 12, 1), 300000);
        String[] rows = {"aa", "aaa", "ab", "aab", "aaab", "aaaa"};
        for (String row : rows) {
            rowOf(x, row);
        }
        due("one: aaa aaa aaa b is before aaaa aaaa a b", x.chosen(7, 0, 1, 0), 2);
        due("its cells", x.chosen(7, 0, 1, 1), 120000);
        due("two: aaa aaa aaab is before aaaa aaaa ab", x.chosen(7, 0, 2, 0), 18);
        due("their cells", x.chosen(7, 0, 12, 1), 90000);
    }

    @Sentence(of = 14, says = "Calls that are refused answer, the first of these that fits")
    static void chosenUnknownOutsideNo() {
        refused("book and k", ORDINARY, x -> x.chosen(8, 0, 13, 0), UNKNOWN);
        refused("code and what", ORDINARY, x -> x.chosen(0, -1, 0, 2), UNKNOWN);
        refused("k, and it could not be", ORDINARY, x -> x.chosen(3, 2, -1, 0), OUTSIDE);
        refused("what, and it could not be", ORDINARY, x -> x.chosen(3, 2, 0, -1), OUTSIDE);
        refused("code, and it could not be", ORDINARY, x -> x.chosen(3, 5, 0, 0), UNKNOWN);
    }
}
