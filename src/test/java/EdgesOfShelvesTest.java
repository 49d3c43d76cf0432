/** Promises 22 to 25: their sentences, those that name boundary cases before all, each by a test of its own. */
public final class EdgesOfShelvesTest extends Edges {
    private EdgesOfShelvesTest() {
    }

    public static void main(String[] args) throws Exception {
        run(EdgesOfShelvesTest.class, args);
    }

    private static void dueFund(String name, DotWar x, int coin, int gain, int code, int set, int price) {
        due(name + ", gain", x.fund(coin, 0), gain);
        due(name + ", code", x.fund(coin, 1), code);
        due(name + ", books", x.fund(coin, 2), set);
        due(name + ", coin", x.fund(coin, 3), price);
    }

    /** Codes 0 and 4 are the same, and a book is of so many pages as its number and one says, beside book 7: none. */
    private static DotWar printed() {
        DotWar x = new DotWar();
        x.letter(0, 0, 1);
        x.letter(4, 0, 1);
        wordOf(x, "aaaaaaaaaa");
        for (int book = 0; book < 7; book++) {
            x.count(book, 0, 20 * (book + 1));
        }
        return x;
    }

    // ---- 22 shelf

    @Sentence(of = 22, says = "Copies: how many there were. UNKNOWN; OUTSIDE.")
    static void shelfAtSchools0To5() {
        taken("school", 0, 5, NEW, (x, school) -> x.shelf(school, 0, 0, 1), 0);
        refusedBeyond("school", 0, 5, ORDINARY, (x, school) -> x.shelf(school, 0, 0, 1), UNKNOWN);
    }

    @Sentence(of = 22, says = "BOOKS 0 to 7: how often each WORD")
    static void shelfOfBooks0To7() {
        taken("book", 0, 7, NEW, (x, book) -> x.shelf(0, book, 0, 1), 0);
        refusedBeyond("book", 0, 7, ORDINARY, (x, book) -> x.shelf(0, book, 0, 1), UNKNOWN);
    }

    @Sentence(of = 22, says = "CODES 0 to 4 give LETTERS CELLS")
    static void shelfInCodes0To4() {
        taken("code", 0, 4, NEW, (x, code) -> x.shelf(0, 0, code, 1), 0);
        refusedBeyond("code", 0, 4, ORDINARY, (x, code) -> x.shelf(0, 0, code, 1), UNKNOWN);
    }

    @Sentence(of = 22, says = "copies of a BOOK in a CODE at a SCHOOL (0 to 100; 0 at first)")
    static void shelf0To100() {
        taken("n", 0, 100, NEW, (x, n) -> x.shelf(5, 7, 4, n), 0);
        refusedBeyond("n", 0, 100, ORDINARY, (x, n) -> x.shelf(0, 0, 0, n), OUTSIDE);
    }

    @Sentence(of = 22, says = "Copies: how many there were.")
    static void shelfTellsHowManyThereWere() {
        DotWar x = new DotWar();
        int were = 0;
        for (int n : new int[] {100, 99, 1, 0, 0, 100}) {
            due("there were", x.shelf(5, 7, 4, n), were);
            due("copies of all", x.told(6), n);
            were = n;
        }
        due("another school", x.shelf(4, 7, 4, 1), 0);
        due("another book", x.shelf(5, 6, 4, 1), 0);
        due("another code", x.shelf(5, 7, 3, 1), 0);
        due("copies of all four", x.told(6), 103);
    }

    @Sentence(of = 22, says = "Calls that are refused answer, the first of these that fits")
    static void shelfUnknownBeforeOutside() {
        refused("school and n", ORDINARY, x -> x.shelf(6, 0, 0, 101), UNKNOWN);
        refused("book and n", ORDINARY, x -> x.shelf(0, 8, 0, -1), UNKNOWN);
        refused("code and n", ORDINARY, x -> x.shelf(0, 0, -1, 101), UNKNOWN);
    }

    @Sentence(of = 22, says = "SHELVES: copies of a BOOK in a CODE at a SCHOOL (0 to 100; 0 at first).")
    static void shelfEachIsItsOwn() {
        DotWar x = new DotWar();
        for (int i = 0; i < 240; i++) {
            due("none at first", x.shelf(i % 6, i / 6 % 8, i / 48, i % 101), 0);
        }
        for (int i = 0; i < 240; i++) {
            due("book " + i / 6 % 8 + " in " + i / 48 + " at " + i % 6, x.shelf(i % 6, i / 6 % 8, i / 48, 1), i % 101);
        }
        due("one of each", x.told(6), 240);
    }

    // ---- 23 reads

    @Sentence(of = 23, says = "BOOKS that a READER CAN READ, as bits. UNKNOWN.")
    static void readsOfReadersThatAre() {
        taken("reader", 0, 19, FILLED, (x, reader) -> x.reads(reader), 0);
        refusedBeyond("reader of twenty", 0, 19, FILLED, (x, reader) -> x.reads(reader), UNKNOWN);
        refusedBeyond("reader of three", 0, 2, ORDINARY, (x, reader) -> x.reads(reader), UNKNOWN);
        refused("reader 0 of none", NEW, x -> x.reads(0), UNKNOWN);
    }

    @Sentence(of = 23, says = "A READER CAN READ a BOOK, if her SCHOOL has a copy in a CODE that she knows.")
    static void readsACopyThatSheKnows() {
        DotWar x = new DotWar();
        x.reader(30, 5, false);
        x.know(0, 4, 1);
        due("no copy", x.reads(0), 0);
        x.shelf(5, 7, 4, 1);
        due("one copy, one year", x.reads(0), 128);
        x.know(0, 4, 0);
        due("no year", x.reads(0), 0);
        x.know(0, 4, 50);
        x.shelf(5, 7, 4, 100);
        due("all copies, all years", x.reads(0), 128);
        x.shelf(5, 7, 4, 0);
        x.shelf(5, 7, 3, 1);
        due("a copy in another code", x.reads(0), 0);
        x.shelf(4, 7, 4, 1);
        due("a copy at another school", x.reads(0), 0);
        x.move(0, 4);
        due("there", x.reads(0), 128);
    }

    @Sentence(of = 23, says = "BOOKS that a READER CAN READ, as bits.")
    static void readsAllBooks() {
        DotWar x = new DotWar();
        x.reader(30, 0, true);
        int bits = 0;
        for (int book = 0; book < 8; book++) {
            x.know(0, book % 5, 1);
            x.shelf(0, book, book % 5, 1);
            bits |= 1 << book;
            due("up to " + book, x.reads(0), bits);
        }
        due("a book need not have words", x.room(0, 0, 0), 0);
    }

    // ---- 24 school

    @Sentence(of = 24, says = "as bits (3). UNKNOWN; OUTSIDE.")
    static void schoolOfSchools0To5() {
        taken("school", 0, 5, NEW, (x, school) -> x.school(school, 0), 0);
        refusedBeyond("school", 0, 5, ORDINARY, (x, school) -> x.school(school, 0), UNKNOWN);
        taken("what", 0, 3, NEW, (x, what) -> x.school(5, what), 0);
        refusedBeyond("what", 0, 3, ORDINARY, (x, what) -> x.school(0, what), OUTSIDE);
    }

    @Sentence(of = 24, says = "Calls that are refused answer, the first of these that fits")
    static void schoolUnknownBeforeOutside() {
        refused("school and what", ORDINARY, x -> x.school(6, 4), UNKNOWN);
        refused("school and what on the other side", ORDINARY, x -> x.school(-1, -1), UNKNOWN);
    }

    @Sentence(of = 24, says = "READERS there who CAN READ none (what = 0)")
    static void schoolReadersWhoCanReadNone() {
        DotWar x = new DotWar();
        for (int i = 0; i < 20; i++) {
            due("before " + i, x.school(3, 0), i);
            x.reader(30, 3, true);
        }
        due("all twenty", x.school(3, 0), 20);
        due("none elsewhere", x.school(2, 0), 0);
        x.shelf(3, 7, 4, 1);
        due("a copy that none knows", x.school(3, 0), 20);
        x.know(19, 4, 1);
        due("one knows", x.school(3, 0), 19);
        x.shelf(3, 7, 4, 0);
        due("no copy", x.school(3, 0), 20);
        x.move(19, 2);
        due("one went", x.school(3, 0), 19);
        due("she can read none there", x.school(2, 0), 1);
    }

    @Sentence(of = 24, says = "WASTE of a SCHOOL: copies in CODES that no READER there knows.")
    static void schoolWaste() {
        DotWar x = new DotWar();
        for (int book = 0; book < 8; book++) {
            for (int code = 0; code < 5; code++) {
                x.shelf(5, book, code, 100);
            }
        }
        due("no reader there: all", x.school(5, 1), 4000);
        due("nothing elsewhere", x.school(4, 1), 0);
        x.reader(30, 5, true);
        due("a reader who knows none: all", x.school(5, 1), 4000);
        x.reader(30, 4, true);
        x.know(1, 0, 50);
        due("a reader elsewhere: all", x.school(5, 1), 4000);
        for (int code = 0; code < 5; code++) {
            x.know(0, code, 1);
            due("she knows up to " + code, x.school(5, 1), 3200 - 800 * code);
        }
        x.move(0, 0);
        due("she went: all", x.school(5, 1), 4000);
    }

    @Sentence(of = 24, says = "READERS there (2)")
    static void schoolReadersThere() {
        DotWar x = new DotWar();
        for (int i = 0; i < 20; i++) {
            due("before " + i, x.school(0, 2), i);
            x.reader(30, 0, true);
        }
        due("all twenty", x.school(0, 2), 20);
        due("none elsewhere", x.school(1, 2), 0);
    }

    @Sentence(of = 24, says = "BOOKS of which copies stand there, and no READER there CAN READ them, as bits (3)")
    static void schoolBooksThatNoneCanRead() {
        DotWar x = new DotWar();
        x.reader(30, 2, true);
        due("no copies", x.school(2, 3), 0);
        for (int book = 0; book < 8; book++) {
            x.shelf(2, book, book % 5, 1);
        }
        due("no reader knows", x.school(2, 3), 255);
        due("none elsewhere", x.school(1, 3), 0);
        x.know(0, 0, 1);
        due("all but 0 and 5", x.school(2, 3), 222);
        x.shelf(2, 7, 0, 1);
        due("book 7 by another copy", x.school(2, 3), 94);
        x.reader(30, 3, true);
        x.know(1, 1, 1);
        due("a reader elsewhere", x.school(2, 3), 94);
        x.move(1, 2);
        due("she came", x.school(2, 3), 28);
        x.shelf(2, 2, 2, 0);
        due("a copy less", x.school(2, 3), 24);
    }

    @Sentence(of = 24, says = "Of a SCHOOL: READERS there who CAN READ none (what = 0), WASTE (1), READERS there (2), "
            + "BOOKS of which copies stand there, and no READER there CAN READ them, as bits (3).")
    static void schoolAllFour() {
        for (int school = 0; school < 6; school++) {
            DotWar x = new DotWar();
            for (int i = 0; i < 5; i++) {
                x.reader(30, i == 4 ? (school + 1) % 6 : school, true);
            }
            x.know(0, 0, 1);
            x.know(1, 1, 1);
            x.know(1, 0, 9);
            x.know(2, 2, 1);
            x.know(4, 3, 1);
            x.shelf(school, 0, 0, 5);
            x.shelf(school, 1, 1, 6);
            x.shelf(school, 5, 3, 7);
            x.shelf(school, 6, 4, 8);
            x.shelf(school, 6, 1, 9);
            x.shelf(school, 7, 4, 10);
            due("two can read none: they of code 2 and of none", x.school(school, 0), 2);
            due("waste in codes 3 and 4", x.school(school, 1), 25);
            due("four readers", x.school(school, 2), 4);
            due("books 5 and 7", x.school(school, 3), 160);
            int next = (school + 1) % 6;
            due("next door: one can read none", x.school(next, 0), 1);
            due("next door: no waste", x.school(next, 1), 0);
            due("next door: one reader", x.school(next, 2), 1);
            due("next door: no book", x.school(next, 3), 0);
        }
    }

    // ---- 25 fund

    @Sentence(of = 25, says = "THE FUND has coin (0 to 1000)")
    static void fundCoin0To1000() {
        taken("coin", 0, 1000, NEW, (x, coin) -> x.fund(coin, 0), 0);
        refusedBeyond("coin", 0, 1000, ORDINARY, (x, coin) -> x.fund(coin, 0), OUTSIDE);
        refused("coin and what", ORDINARY, x -> x.fund(1001, 4), OUTSIDE);
    }

    @Sentence(of = 25, says = "coin that it takes (3; 0). OUTSIDE.")
    static void fundWhat0To3() {
        dueFund("without coin: 2, 4, 5, 6 for two readers", made(ORDINARY), 0, 8, 1, 116, 0);
        dueFund("with all coin: 7 too", made(ORDINARY), 1000, 10, 1, 244, 1);
        refusedBeyond("what", 0, 3, ORDINARY, (x, what) -> x.fund(1000, what), OUTSIDE);
    }

    @Sentence(of = 25, says = "CODE (1; NONE: no GAIN), BOOKS as bits (2; 0), coin that it takes (3; 0)")
    static void fundWithoutGain() {
        DotWar x = new DotWar();
        dueFund("no readers", x, 1000, 0, NONE, 0, 0);
        x.reader(30, 0, true);
        dueFund("a reader who knows none", x, 1000, 0, NONE, 0, 0);
        x.know(0, 4, 1);
        dueFund("a reader who knows one", x, 1000, 8, 4, 255, 0);
        for (int book = 0; book < 8; book++) {
            x.shelf(0, book, 4, 1);
        }
        dueFund("she can read all", x, 1000, 0, NONE, 0, 0);
        x.shelf(0, 7, 4, 0);
        dueFund("all but one", x, 1000, 1, 4, 128, 0);
        x.shelf(0, 7, 3, 1);
        dueFund("a copy that she can not read", x, 1000, 1, 4, 128, 0);
        x.know(0, 3, 1);
        dueFund("that she can", x, 1000, 0, NONE, 0, 0);
    }

    @Sentence(of = 25, says = "some BOOKS, each at its pages in that CODE")
    static void fundByPages() {
        DotWar x = printed();
        x.reader(30, 0, true);
        x.know(0, 0, 1);
        dueFund("no coin: the empty book", x, 0, 1, 0, 128, 0);
        dueFund("just one page", x, 1, 2, 0, 129, 1);
        dueFund("two: as many books for less", x, 2, 2, 0, 129, 1);
        dueFund("three: just enough", x, 3, 3, 0, 131, 3);
        dueFund("one less than all", x, 27, 7, 0, 191, 21);
        dueFund("just all", x, 28, 8, 0, 255, 28);
        dueFund("the most coin", x, 1000, 8, 0, 255, 28);
    }

    @Sentence(of = 25, says = "THE FUND has coin (0 to 1000)")
    static void fundABookOf1000Pages() {
        DotWar x = new DotWar();
        x.letter(0, 0, 1);
        for (int w = 0; w < 21; w++) {
            wordOf(x, w < 20 ? "aaaaaaaaaa" : "a");
            x.count(0, w, w < 20 ? 1000 : 0);
        }
        for (int book = 1; book < 8; book++) {
            x.shelf(0, book, 0, 1);
        }
        x.reader(30, 0, true);
        x.know(0, 0, 1);
        due("pages", x.room(0, 0, 2), 1000);
        dueFund("all coin", x, 1000, 1, 0, 1, 1000);
        dueFund("one less", x, 999, 0, NONE, 0, 0);
        x.count(0, 20, 1);
        due("one page more", x.room(0, 0, 2), 1001);
        dueFund("not even with all coin", x, 1000, 0, NONE, 0, 0);
    }

    @Sentence(of = 25, says = "(those that can be WRITTEN in it)")
    static void fundOfBooksThatCanBe() {
        DotWar x = printed();
        x.reader(30, 0, true);
        x.know(0, 0, 1);
        wordOf(x, "b");
        x.count(7, 1, 1);
        dueFund("a word without a cell", x, 1000, 7, 0, 127, 28);
        dueFund("a word without a cell, no coin", x, 0, 0, NONE, 0, 0);
        x.letter(0, 1, 2);
        dueFund("with a cell", x, 1000, 8, 0, 255, 29);
        x.know(0, 0, 0);
        x.know(0, 1, 1);
        dueFund("a code of nothing", x, 1000, 0, NONE, 0, 0);
        x.count(7, 1, 0);
        dueFund("an empty book in it", x, 1000, 1, 1, 128, 0);
    }

    @Sentence(of = 25, says = "at once for all SCHOOLS")
    static void fundForAllSchools() {
        DotWar x = printed();
        for (int school = 0; school < 6; school++) {
            x.reader(30, school, true);
            x.know(school, 4, 1);
        }
        dueFund("one page for six readers", x, 1, 12, 4, 129, 1);
        x.shelf(5, 0, 4, 1);
        dueFund("five of them could not", x, 1, 11, 4, 129, 1);
        for (int school = 0; school < 5; school++) {
            x.shelf(school, 0, 4, 1);
        }
        dueFund("none of them", x, 1, 6, 4, 128, 0);
        dueFund("the next book", x, 2, 12, 4, 130, 2);
    }

    @Sentence(of = 25, says = "the most, of several the first CODE, then the cheapest set, then the least as bits")
    static void fundFirstCode() {
        DotWar x = printed();
        x.reader(30, 0, true);
        x.reader(30, 0, true);
        x.know(0, 4, 1);
        x.know(1, 0, 1);
        dueFund("as many in both", x, 1000, 8, 0, 255, 28);
        shortOf(x, 4, "aaaa", 1);
        dueFund("a cheaper code is not first", x, 1000, 8, 0, 255, 28);
        x.know(1, 4, 1);
        dueFund("the most is first", x, 1000, 16, 4, 255, 14);
        x.shelf(0, 0, 0, 1);
        x.know(1, 0, 0);
        x.shelf(0, 1, 4, 1);
        dueFund("one that both have", x, 1000, 14, 4, 253, 13);
    }

    @Sentence(of = 25, says = "then the cheapest set, then the least as bits")
    static void fundCheapestThenLeast() {
        DotWar x = printed();
        x.reader(30, 0, true);
        x.know(0, 0, 1);
        x.shelf(0, 7, 0, 1);
        dueFund("one page for one", x, 2, 1, 0, 1, 1);
        x.count(6, 0, 20);
        dueFund("two of one page: the least", x, 1, 1, 0, 1, 1);
        x.count(0, 0, 40);
        dueFund("the cheapest is the last", x, 2, 1, 0, 64, 1);
        dueFund("the cheapest, and the least of two", x, 3, 2, 0, 65, 3);
        x.shelf(0, 0, 0, 1);
        dueFund("one without gain is not printed", x, 4, 2, 0, 66, 3);
        x.count(0, 0, 0);
        dueFund("even if it is free", x, 4, 2, 0, 66, 3);
    }

    @Sentence(of = 25, says = "how many times a READER who knows the CODE CAN READ a BOOK then, and could not")
    static void fundTheMostGain() {
        DotWar x = new DotWar();
        for (int i = 0; i < 20; i++) {
            x.reader(30, i % 6, true);
            x.know(i, 4, 1);
        }
        dueFund("twenty readers, eight books", x, 0, 160, 4, 255, 0);
        x.know(19, 4, 0);
        dueFund("one knows it not", x, 0, 152, 4, 255, 0);
        x.know(19, 3, 50);
        dueFund("but another", x, 0, 152, 4, 255, 0);
    }

    @Sentence(of = 25, says = "THE FUND has coin (0 to 1000), and prints in one CODE: some BOOKS")
    static void fundPrintsInOneCode() {
        DotWar x = new DotWar();
        x.letter(0, 0, 1);
        x.letter(1, 1, 1);
        wordOf(x, "a");
        wordOf(x, "b");
        wordOf(x, "z");
        for (int book = 0; book < 8; book++) {
            x.count(book, Math.min(book, 2), 1);
        }
        x.reader(30, 0, true);
        x.reader(30, 0, true);
        x.know(0, 0, 1);
        x.know(1, 1, 1);
        dueFund("book 0 in code 0, not book 1 in code 1 too", x, 1000, 1, 0, 1, 1);
        x.know(0, 1, 1);
        dueFund("book 1 in code 1 for both", x, 1000, 2, 1, 2, 1);
        x.letter(0, 1, 2);
        dueFund("both books in code 0 for one", x, 1000, 2, 0, 3, 2);
        dueFund("for one coin book 1 in code 1", x, 1, 2, 1, 2, 1);
    }

    @Sentence(of = 25, says = "GAIN: how many times a READER who knows the CODE CAN READ a BOOK then, and could not")
    static void fundGainIsWhatIsReadThen() {
        for (int coin : new int[] {0, 1, 2, 3, 5, 8, 13, 27, 28, 1000}) {
            DotWar x = printed();
            x.letter(2, 0, 1);
            shortOf(x, 2, "aaaa", 2);
            for (int r = 0; r < 12; r++) {
                x.reader(30, r % 6, true);
                x.know(r, r % 5, 1);
                x.know(r, r * r % 5, 2);
            }
            for (int school = 0; school < 6; school++) {
                x.shelf(school, school, school % 5, 1);
                x.shelf(school, 7 - school, 4, 1);
                x.shelf(school, 2, 2, school % 2);
            }
            int gain = x.fund(coin, 0);
            int code = x.fund(coin, 1);
            int set = x.fund(coin, 2);
            int price = x.fund(coin, 3);
            int before = 0;
            for (int r = 0; r < 12; r++) {
                before += Integer.bitCount(x.reads(r));
            }
            int pages = 0;
            for (int book = 0; book < 8; book++) {
                for (int school = 0; school < 6 && (set >> book & 1) == 1; school++) {
                    x.shelf(school, book, code, 1);
                }
                pages += (set >> book & 1) == 1 ? x.room(book, code, 2) : 0;
            }
            int then = 0;
            for (int r = 0; r < 12; r++) {
                then += Integer.bitCount(x.reads(r));
            }
            due("gain of " + coin, gain, then - before);
            due("pages of " + coin, price, pages);
            due("within " + coin, price <= coin ? 1 : 0, 1);
        }
    }

    @Sentence(of = 25, says = "THE FUND: GAIN (what = 0), CODE (1; NONE: no GAIN), BOOKS as bits (2; 0), coin that it takes (3; 0).")
    static void fundPrintsNothing() {
        DotWar x = printed();
        for (int r = 0; r < 6; r++) {
            x.reader(30, r, true);
            x.know(r, 4, 1);
        }
        dueFund("all books", x, 1000, 48, 4, 255, 28);
        dueFund("again: it was only asked", x, 1000, 48, 4, 255, 28);
        due("no copies stand", x.told(6), 0);
        due("nothing can be read", x.reads(5), 0);
    }
}
