/** Promises 1 to 9: their sentences, those that name boundary cases before all, each by a test of its own. */
public final class EdgesOfCodesTest extends Edges {
    private EdgesOfCodesTest() {
    }

    public static void main(String[] args) throws Exception {
        run(EdgesOfCodesTest.class, args);
    }

    // ---- 1 a new object

    @Sentence(of = 1, says = "No CELLS, SHORTS, WORDS, ROWS, READERS, copies, RULES")
    static void newHasNoCells() {
        DotWar x = new DotWar();
        for (int code = 0; code < 5; code++) {
            due("letters of " + code, x.told(20 + code), 0);
            for (int l = 0; l < 26; l++) {
                due("cell of " + l + " in " + code, x.letter(code, l, 63), 0);
            }
        }
    }

    @Sentence(of = 1, says = "No CELLS, SHORTS, WORDS, ROWS, READERS, copies, RULES")
    static void newHasNoShorts() {
        for (int code = 0; code < 5; code++) {
            DotWar x = new DotWar();
            due("shorts of " + code, x.told(10 + code), 0);
            pad(x, "ab");
            due("nothing stands for letters", x.write(code, -1), NO);
            due("the first short", shortOf(x, code, "ab", 1), 0);
        }
    }

    @Sentence(of = 1, says = "No CELLS, SHORTS, WORDS, ROWS, READERS, copies, RULES")
    static void newHasNoWords() {
        DotWar x = new DotWar();
        due("words", x.told(3), 0);
        due("word 0", x.count(0, 0, 0), UNKNOWN);
        due("the first word", wordOf(x, "a"), 0);
    }

    @Sentence(of = 1, says = "No CELLS, SHORTS, WORDS, ROWS, READERS, copies, RULES")
    static void newHasNoRows() {
        DotWar x = new DotWar();
        due("rows", x.told(4), 0);
        due("chosen of none", x.chosen(0, 0, 12, 0), 0);
        due("the first row", rowOf(x, "ab"), 0);
    }

    @Sentence(of = 1, says = "No CELLS, SHORTS, WORDS, ROWS, READERS, copies, RULES")
    static void newHasNoReaders() {
        DotWar x = new DotWar();
        due("readers", x.told(5), 0);
        due("reader 0", x.about(0, 0), UNKNOWN);
        for (int school = 0; school < 6; school++) {
            due("readers at " + school, x.school(school, 2), 0);
        }
        due("the first reader", x.reader(5, 0, false), 0);
    }

    @Sentence(of = 1, says = "No CELLS, SHORTS, WORDS, ROWS, READERS, copies, RULES")
    static void newHasNoCopies() {
        DotWar x = new DotWar();
        due("copies", x.told(6), 0);
        for (int school = 0; school < 6; school++) {
            for (int book = 0; book < 8; book++) {
                for (int code = 0; code < 5; code++) {
                    due("copies at " + school, x.shelf(school, book, code, 100), 0);
                }
            }
        }
    }

    @Sentence(of = 1, says = "No CELLS, SHORTS, WORDS, ROWS, READERS, copies, RULES")
    static void newHasNoRules() {
        DotWar x = new DotWar();
        for (int school = 0; school < 6; school++) {
            x.reader(30, school, true);
            due("voters at " + school, x.voters(school), 0);
            due("the first rule at " + school, boardOf(x, school, "s=1"), 1);
        }
    }

    @Sentence(of = 1, says = "LETTERS are of no PART")
    static void newHasNoParts() {
        DotWar x = new DotWar();
        for (int l = 0; l < 26; l++) {
            due("part of " + l, x.part(l, 0), NONE);
        }
    }

    @Sentence(of = 1, says = "A new object")
    static void newIsNotTheOldOne() {
        DotWar old = made(FILLED);
        DotWar x = new DotWar();
        for (int what : new int[] {0, 1, 2, 3, 4, 5, 6, 10, 11, 12, 13, 14, 20, 21, 22, 23, 24}) {
            due("told " + what, x.told(what), 0);
        }
        due("the old one is as it was", old.told(3), 30);
    }

    // ---- 2 letter

    @Sentence(of = 2, says = "CODES 0 to 4 give LETTERS CELLS")
    static void letterInCodes0To4() {
        taken("code", 0, 4, NEW, (x, code) -> x.letter(code, 0, 1), 0);
        refusedBeyond("code", 0, 4, ORDINARY, (x, code) -> x.letter(code, 0, 2), UNKNOWN);
    }

    @Sentence(of = 2, says = "LETTERS are 0 to 25")
    static void letterOfLetters0To25() {
        taken("letter", 0, 25, NEW, (x, l) -> x.letter(4, l, 1), 0);
        refusedBeyond("letter", 0, 25, ORDINARY, (x, l) -> x.letter(0, l, 2), UNKNOWN);
    }

    @Sentence(of = 2, says = "CELLS are 1 to 63 (six points, as bits)")
    static void letterTakesCells1To63() {
        taken("cell", 0, 63, NEW, (x, cell) -> x.letter(0, 0, cell), 0);
        refusedBeyond("cell", 0, 63, ORDINARY, (x, cell) -> x.letter(0, 0, cell), OUTSIDE);
    }

    @Sentence(of = 2, says = "CELL of a LETTER in a CODE (0: none): which it was.")
    static void letterTellsWhichItWas() {
        DotWar x = new DotWar();
        for (int cell = 1; cell <= 63; cell++) {
            due("it was", x.letter(4, 25, cell), cell - 1);
        }
        due("the last", x.letter(4, 25, 0), 63);
        due("none again", x.letter(4, 25, 0), 0);
        due("no letter has a cell", x.told(24), 0);
        x.say(25);
        due("none can not be written", x.write(4, -1), NO);
        x.letter(4, 25, 1);
        due("another code's letter is not it", x.letter(3, 25, 1), 0);
        due("another letter is not it", x.letter(4, 24, 1), 0);
    }

    @Sentence(of = 2, says = "(0: none, at first; two may have one)")
    static void letterMayShareACell() {
        DotWar x = new DotWar();
        for (int l = 0; l < 26; l++) {
            due("letter " + l, x.letter(0, l, 63), 0);
        }
        due("all have it", x.told(20), 26);
        due("the first still has", x.letter(0, 0, 63), 63);
    }

    @Sentence(of = 2, says = "Calls that are refused answer, the first of these that fits")
    static void letterUnknownBeforeOutside() {
        refused("code and cell", ORDINARY, x -> x.letter(5, 0, 64), UNKNOWN);
        refused("letter and cell", ORDINARY, x -> x.letter(0, 26, -1), UNKNOWN);
        refused("all three", ORDINARY, x -> x.letter(-1, -1, -1), UNKNOWN);
    }

    @Sentence(of = 2, says = "CODES 0 to 4 give LETTERS CELLS (0: none, at first; two may have one), and have SHORTS, 12 at most each")
    static void letterIsOfOneCode() {
        DotWar x = new DotWar();
        for (int i = 0; i < 130; i++) {
            due("none yet", x.letter(i % 5, i / 5, i % 63 + 1), 0);
        }
        for (int i = 0; i < 130; i++) {
            due("letter " + i / 5 + " of code " + i % 5, x.letter(i % 5, i / 5, 0), i % 63 + 1);
        }
        for (int code = 0; code < 5; code++) {
            DotWar y = new DotWar();
            y.letter(code, 2, 9);
            shortOf(y, code, "ab", 1);
            pad(y, "abc");
            cells(y, 1, 9);
            for (int other = 0; other < 5; other++) {
                boolean same = other == code;
                due("written in " + other, y.write(other, -1), same ? 2 : NO);
                due("read in " + other, y.read(other, -1), same ? 1 : 0);
                due("shorts of " + other, y.told(10 + other), same ? 1 : 0);
                due("letters of " + other, y.told(20 + other), same ? 1 : 0);
            }
        }
    }

    // ---- 3 say

    @Sentence(of = 3, says = "LETTERS are 0 to 25")
    static void sayTakesLetters0To25() {
        taken("letter", 0, 25, NEW, (x, l) -> x.say(l), 1);
        refusedBeyond("letter", 0, 25, ORDINARY, (x, l) -> x.say(l), UNKNOWN);
        refusedBeyond("letter on an empty pad", 0, 25, NEW, (x, l) -> x.say(l), UNKNOWN);
    }

    @Sentence(of = 3, says = "PADS: of LETTERS (10 at most), of CELLS (12).")
    static void sayTenAtMost() {
        DotWar x = new DotWar();
        for (int i = 1; i <= 10; i++) {
            due("letter " + i, x.say(i % 3), i);
        }
        due("the eleventh", x.say(0), FULL);
        x.wipe(0);
        due("the first again", x.say(0), 1);
        refused("full", FILLED, y -> y.say(25), FULL);
    }

    @Sentence(of = 3, says = "Calls that are refused answer, the first of these that fits")
    static void sayUnknownBeforeFull() {
        refused("letter 26", FILLED, x -> x.say(26), UNKNOWN);
        refused("letter -1", FILLED, x -> x.say(-1), UNKNOWN);
    }

    @Sentence(of = 3, says = "A LETTER more on the PAD: how many.")
    static void sayPutsBehindTheLast() {
        DotWar x = new DotWar();
        for (int l = 0; l < 26; l++) {
            x.letter(0, l, l + 1);
        }
        int[] said = {25, 0, 0, 13, 24, 1, 25, 7, 7, 0};
        for (int i = 0; i < said.length; i++) {
            due("how many", x.say(said[i]), i + 1);
            due("told", x.told(0), i + 1);
            due("no cell is put", x.told(1), 0);
            for (int j = 0; j <= i; j++) {
                due("letter " + j + " of " + (i + 1), x.write(0, j), said[j] + 1);
            }
        }
    }

    // ---- 4 dot

    @Sentence(of = 4, says = "CELLS are 1 to 63 (six points, as bits)")
    static void dotTakesCells1To63() {
        taken("cell", 1, 63, NEW, (x, cell) -> x.dot(cell), 1);
        refusedBeyond("cell", 1, 63, ORDINARY, (x, cell) -> x.dot(cell), OUTSIDE);
        refusedBeyond("cell on an empty pad", 1, 63, NEW, (x, cell) -> x.dot(cell), OUTSIDE);
    }

    @Sentence(of = 4, says = "PADS: of LETTERS (10 at most), of CELLS (12).")
    static void dotTwelveAtMost() {
        DotWar x = new DotWar();
        for (int i = 1; i <= 12; i++) {
            due("cell " + i, x.dot(i), i);
        }
        due("the thirteenth", x.dot(1), FULL);
        x.wipe(1);
        due("the first again", x.dot(1), 1);
        refused("full", FILLED, y -> y.dot(63), FULL);
    }

    @Sentence(of = 4, says = "Calls that are refused answer, the first of these that fits")
    static void dotOutsideBeforeFull() {
        refused("cell 0", FILLED, x -> x.dot(0), OUTSIDE);
        refused("cell 64", FILLED, x -> x.dot(64), OUTSIDE);
    }

    @Sentence(of = 4, says = "A CELL more on the PAD: how many.")
    static void dotPutsBehindTheLast() {
        DotWar x = new DotWar();
        for (int l = 0; l < 26; l++) {
            x.letter(0, l, 63 - l);
        }
        int[] pressed = {63, 38, 38, 50, 39, 62, 63, 45, 45, 63, 40, 41};
        for (int i = 0; i < pressed.length; i++) {
            due("how many", x.dot(pressed[i]), i + 1);
            due("told", x.told(1), i + 1);
            due("no letter is put", x.told(0), 0);
            for (int j = 0; j <= i; j++) {
                due("cell " + j + " of " + (i + 1), x.read(0, j), 63 - pressed[j]);
            }
        }
    }

    // ---- 5 wipe

    @Sentence(of = 5, says = "PAD of LETTERS (0), of CELLS (1), signs of a RULE (2) are emptied: how many there were. OUTSIDE.")
    static void wipeTakes0To2() {
        taken("which", 0, 2, NEW, (x, which) -> x.wipe(which), 0);
        refusedBeyond("which", 0, 2, ORDINARY, (x, which) -> x.wipe(which), OUTSIDE);
        refusedBeyond("which of full ones", 0, 2, FILLED, (x, which) -> x.wipe(which), OUTSIDE);
    }

    @Sentence(of = 5, says = "are emptied: how many there were")
    static void wipeOneOfThree() {
        int[] full = {10, 12, 40};
        for (int which = 0; which < 3; which++) {
            DotWar x = made(FILLED);
            due("full " + which, x.wipe(which), full[which]);
            for (int other = 0; other < 3; other++) {
                due("told of " + other + " then", x.told(other), other == which ? 0 : full[other]);
            }
            due("empty " + which, x.wipe(which), 0);
        }
        DotWar x = new DotWar();
        x.say(0);
        x.dot(1);
        x.sign(33);
        due("one letter", x.wipe(0), 1);
        due("one cell", x.wipe(1), 1);
        due("one sign", x.wipe(2), 1);
    }

    // ---- 6 abbreviate

    @Sentence(of = 6, says = "2 to 4 LETTERS stand as 1 or 2 CELLS")
    static void abbreviateBySizesOfPads() {
        for (int letters = 0; letters <= 10; letters++) {
            for (int cells = 0; cells <= 12; cells++) {
                DotWar x = new DotWar();
                for (int i = 0; i < letters; i++) {
                    x.say(i);
                }
                for (int i = 0; i < cells; i++) {
                    x.dot(i + 1);
                }
                boolean fits = letters >= 2 && letters <= 4 && cells >= 1 && cells <= 2;
                String name = letters + " letters, " + cells + " cells";
                due(name, x.abbreviate(4), fits ? 0 : NO);
                due(name + ", letters then", x.told(0), fits ? 0 : letters);
                due(name + ", cells then", x.told(1), fits ? 0 : cells);
                due(name + ", shorts then", x.told(14), fits ? 1 : 0);
            }
        }
    }

    @Sentence(of = 6, says = "NO: there are not 2 to 4 LETTERS and 1 or 2 CELLS.")
    static void abbreviateNoChangesNothing() {
        refused("three cells", ORDINARY, x -> x.abbreviate(0), NO);
        refused("no letters", then(ORDINARY, x -> {
            x.wipe(0);
            cells(x, 1);
        }), x -> x.abbreviate(0), NO);
        refused("one letter", then(ORDINARY, x -> {
            pad(x, "a");
            cells(x, 1, 2);
        }), x -> x.abbreviate(0), NO);
        refused("five letters", then(ORDINARY, x -> {
            pad(x, "abcde");
            cells(x, 1);
        }), x -> x.abbreviate(4), NO);
        refused("no cells", then(ORDINARY, x -> x.wipe(1)), x -> x.abbreviate(2), NO);
    }

    @Sentence(of = 6, says = "SHORTS, 12 at most each, numbered from 0 on")
    static void abbreviateTwelveAtMostEach() {
        for (int code = 0; code < 5; code++) {
            DotWar x = new DotWar();
            for (int i = 0; i < 12; i++) {
                due("short " + i + " of " + code, shortOf(x, code, "abcd", 1, 2), i);
                due("shorts", x.told(10 + code), i + 1);
            }
            due("the thirteenth", shortOf(x, code, "ab", 1), FULL);
            due("another code's first", x.abbreviate((code + 1) % 5), 0);
        }
        refused("full", then(FILLED, x -> {
            pad(x, "ab");
            cells(x, 1);
        }), x -> x.abbreviate(0), FULL);
    }

    @Sentence(of = 6, says = "A SHORT of both PADS (they are empty then): its number.")
    static void abbreviateKeepsWhatStoodOnThePads() {
        DotWar x = new DotWar();
        shortOf(x, 0, "az", 63);
        shortOf(x, 0, "zabz", 1, 62);
        due("letters are empty", x.told(0), 0);
        due("cells are empty", x.told(1), 0);
        pad(x, "azzabz");
        dueRow("both", x, 0, 63, 1, 62);
        cells(x, 63, 1, 62);
        dueFirst("both", x, 0, 1, "azzabz");
    }

    @Sentence(of = 6, says = "CODES 0 to 4 give LETTERS CELLS")
    static void abbreviateInCodes0To4() {
        Setup fit = then(NEW, x -> {
            pad(x, "ab");
            cells(x, 1);
        });
        taken("code", 0, 4, fit, (x, code) -> x.abbreviate(code), 0);
        refusedBeyond("code", 0, 4, then(ORDINARY, x -> cells(x, 1)), (x, code) -> x.abbreviate(code), UNKNOWN);
    }

    @Sentence(of = 6, says = "Calls that are refused answer, the first of these that fits")
    static void abbreviateUnknownFullNo() {
        refused("unknown before no", ORDINARY, x -> x.abbreviate(5), UNKNOWN);
        refused("full before no: too many", FILLED, x -> x.abbreviate(0), FULL);
        refused("full before no: too few", then(FILLED, x -> {
            x.wipe(0);
            x.wipe(1);
        }), x -> x.abbreviate(0), FULL);
        refused("another code is not full", FILLED, x -> x.abbreviate(1), NO);
    }

    // ---- 7 write

    @Sentence(of = 7, says = "NO: they can not be (0 of no LETTERS).")
    static void writeOfNoLetters() {
        for (int code = 0; code < 5; code++) {
            dueRow("a new code", new DotWar(), code);
        }
        dueRow("a code with letters and shorts", made(then(ORDINARY, x -> x.wipe(0))), 0);
    }

    @Sentence(of = 7, says = "NO: they can not be (0 of no LETTERS).")
    static void writeOfALetterWithoutACell() {
        for (int place = 0; place < 10; place++) {
            DotWar x = new DotWar();
            x.letter(0, 0, 1);
            for (int i = 0; i < 10; i++) {
                x.say(i == place ? 1 : 0);
            }
            due("at " + place, x.write(0, -1), NO);
            x.letter(0, 1, 2);
            due("with a cell, at " + place, x.write(0, place), 2);
        }
        DotWar y = new DotWar();
        shortOf(y, 0, "ab", 1);
        pad(y, "a");
        due("a short's first letter alone", y.write(0, -1), NO);
        pad(y, "ab");
        due("the short", y.write(0, -1), 1);
        pad(y, "aba");
        due("and one more", y.write(0, -1), NO);
        pad(y, "bab");
        due("one before", y.write(0, -1), NO);
    }

    @Sentence(of = 7, says = "how many (i = -1), points (i = -2), the i-th; NONE.")
    static void writeTheIth() {
        DotWar x = made(ORDINARY);
        pad(x, "zyxwvutsra");
        dueRow("ten letters", x, 3, 26, 25, 24, 23, 22, 21, 20, 19, 18, 1);
        for (int i : new int[] {-3, -4, 10, 11, 63, 255, 256, 65536, MIN, MAX}) {
            due("i " + i, x.write(3, i), NONE);
        }
    }

    @Sentence(of = 7, says = "Calls that are refused answer, the first of these that fits")
    static void writeUnknownBeforeNoBeforeNone() {
        refusedBeyond("code", 0, 4, ORDINARY, (x, code) -> x.write(code, -1), UNKNOWN);
        refused("a code that is not, an i that is not", ORDINARY, x -> x.write(5, 99), UNKNOWN);
        for (int i : new int[] {-3, -2, -1, 0, 9, 10, MIN, MAX}) {
            refused("no cells, i " + i, ORDINARY, x -> x.write(2, i), NO);
        }
    }

    @Sentence(of = 7, says = "with the fewest CELLS")
    static void writeFewestCellsBeforePoints() {
        DotWar x = new DotWar();
        alphabet(x, 0, 1, 2, 4, 8);
        shortOf(x, 0, "abcd", 63, 63);
        pad(x, "abcd");
        dueRow("two of twelve points, not four of four", x, 0, 63, 63);
        shortOf(x, 0, "abc", 63);
        pad(x, "abcd");
        dueRow("two of seven points", x, 0, 63, 8);
    }

    @Sentence(of = 7, says = "of several the fewest points")
    static void writeFewestPointsBeforeItems() {
        DotWar x = new DotWar();
        alphabet(x, 0, 1, 2);
        shortOf(x, 0, "ab", 7, 7);
        pad(x, "ab");
        dueRow("letters with fewer points", x, 0, 1, 2);
        x.letter(0, 0, 31);
        x.letter(0, 1, 1);
        dueRow("as many points: the short", x, 0, 7, 7);
        shortOf(x, 0, "ab", 63);
        shortOf(x, 0, "ab", 31);
        pad(x, "ab");
        dueRow("the later short has fewer", x, 0, 31);
    }

    @Sentence(of = 7, says = "then the first by ITEMS")
    static void writeFirstByItems() {
        DotWar x = new DotWar();
        alphabet(x, 0, 1, 2, 4);
        shortOf(x, 0, "bc", 8);
        shortOf(x, 0, "ab", 16);
        pad(x, "abc");
        dueRow("a short is before a letter, though its number is higher", x, 0, 16, 4);
        shortOf(x, 0, "ab", 32);
        pad(x, "ab");
        dueRow("of two shorts the first", x, 0, 16);
        pad(x, "abbc");
        dueRow("of two and one", x, 0, 16, 8);
        DotWar y = new DotWar();
        shortOf(y, 1, "bb", 1);
        shortOf(y, 1, "aab", 2);
        shortOf(y, 1, "aa", 4);
        y.letter(1, 1, 8);
        pad(y, "aabb");
        dueRow("by the first item, not by the last", y, 1, 2, 8);
    }

    @Sentence(of = 7, says = "2 to 4 LETTERS stand as 1 or 2 CELLS")
    static void writeAShortWhereAllItsLettersStand() {
        for (int size = 2; size <= 4; size++) {
            DotWar x = new DotWar();
            alphabet(x, 0, 1, 2, 4, 8, 16);
            String letters = "abcd".substring(0, size);
            shortOf(x, 0, letters, 32);
            pad(x, letters);
            dueRow(letters, x, 0, 32);
            for (int place = 0; place < size; place++) {
                String other = letters.substring(0, place) + "e" + letters.substring(place + 1);
                pad(x, other);
                due(other, x.write(0, -1), size);
                due(other + " at " + place, x.write(0, place), 16);
            }
            pad(x, letters.substring(0, size - 1));
            due("all but the last", x.write(0, -1), size - 1);
            pad(x, letters.substring(1));
            due("all but the first", x.write(0, -1), size - 1);
        }
    }

    @Sentence(of = 7, says = "PADS: of LETTERS (10 at most), of CELLS (12).")
    static void writeTheMost() {
        DotWar x = new DotWar();
        x.letter(4, 25, 63);
        pad(x, "zzzzzzzzzz");
        due("ten cells", x.write(4, -1), 10);
        due("sixty points", x.write(4, -2), 60);
        due("the last", x.write(4, 9), 63);
        due("the letters stay", x.told(0), 10);
        for (int i = 0; i < 12; i++) {
            shortOf(x, 4, "zz", 63, i == 11 ? 62 : 63);
        }
        pad(x, "zzzzzzzzzz");
        due("the last of twelve shorts", x.write(4, -2), 55);
        due("its second cell", x.write(4, 9), 62);
    }

    @Sentence(of = 7, says = "ITEMS of a CODE: its SHORTS by numbers, then LETTERS that have a CELL.")
    static void writeByNumbersOfShorts() {
        for (int first = 0; first < 12; first++) {
            DotWar x = new DotWar();
            alphabet(x, 0, 32, 16);
            for (int s = 0; s < 12; s++) {
                shortOf(x, 0, s < first ? "yz" : "ab", 1 + s, s % 2 == 0 ? 63 : 62);
            }
            pad(x, "ab");
            dueRow("letters have fewer points than shorts from " + first + " on", x, 0, 32, 16);
            DotWar y = new DotWar();
            alphabet(y, 0, 32, 16);
            for (int s = 0; s < 12; s++) {
                shortOf(y, 0, s < first ? "yz" : "ab", 1 << s % 6, 1 << (s + s / 6 + 1) % 6);
            }
            pad(y, "ab");
            dueRow("as many points: short " + first, y, 0, 1 << first % 6, 1 << (first + first / 6 + 1) % 6);
        }
    }

    @Sentence(of = 7, says = "LETTERS of the PAD are WRITTEN as a row of ITEMS: with the fewest CELLS, of several the fewest points, "
            + "then the first by ITEMS.")
    static void writeAsARowOfItems() {
        DotWar x = new DotWar();
        alphabet(x, 0, 1, 2);
        shortOf(x, 0, "abc", 4);
        shortOf(x, 0, "bca", 8, 16);
        shortOf(x, 0, "ca", 32);
        pad(x, "abcabcabca");
        dueRow("abc abc abc a", x, 0, 4, 4, 4, 1);
        pad(x, "bcabca");
        dueRow("bca bca, not b ca b ca", x, 0, 8, 16, 8, 16);
        pad(x, "bcaab");
        dueRow("bca a b", x, 0, 8, 16, 1, 2);
        pad(x, "caabcca");
        dueRow("ca abc ca", x, 0, 32, 4, 32);
        pad(x, "bcabc");
        due("bca, then bc is no row", x.write(0, -1), NO);
        x.letter(0, 1, 3);
        pad(x, "bca");
        dueRow("bca has fewer points than b ca", x, 0, 8, 16);
        x.letter(0, 2, 63);
        pad(x, "bcabc");
        dueRow("b c abc", x, 0, 3, 63, 4);
    }

    @Sentence(of = 7, says = "CELLS as the PAD's LETTERS are WRITTEN: how many (i = -1), points (i = -2), the i-th; NONE.")
    static void writeAsThePadNowIs() {
        DotWar x = new DotWar();
        alphabet(x, 2, 7, 56);
        pad(x, "ab");
        dueRow("two letters", x, 2, 7, 56);
        x.say(0);
        dueRow("one more", x, 2, 7, 56, 7);
        x.letter(2, 0, 1);
        dueRow("by the cell it now has", x, 2, 1, 56, 1);
        x.wipe(0);
        dueRow("none", x, 2);
        shortOf(x, 2, "aba", 63);
        pad(x, "aba");
        dueRow("by the short that now is", x, 2, 63);
        due("not by another code", x.write(1, -1), NO);
    }

    // ---- 8 read

    @Sentence(of = 8, says = "(No CELLS: one way.)")
    static void readOfNoCells() {
        for (int code = 0; code < 5; code++) {
            dueFirst("a new code", new DotWar(), code, 1, "");
            dueFirst("an ordinary code", made(then(ORDINARY, x -> x.wipe(1))), code, 1, "");
        }
    }

    @Sentence(of = 8, says = "how many LETTERS the FIRST way has (i = -2; 0: none)")
    static void readOfNoWay() {
        DotWar x = new DotWar();
        cells(x, 1);
        dueFirst("a code without items", x, 0, 0, "");
        x.letter(0, 0, 1);
        for (int place = 0; place < 12; place++) {
            x.wipe(1);
            for (int i = 0; i < 12; i++) {
                x.dot(i == place ? 2 : 1);
            }
            dueFirst("a cell of none at " + place, x, 0, 0, "");
        }
        DotWar y = new DotWar();
        shortOf(y, 0, "ab", 1, 2);
        cells(y, 1);
        dueFirst("half a short", y, 0, 0, "");
        cells(y, 1, 2);
        dueFirst("the short", y, 0, 1, "ab");
        cells(y, 1, 2, 1);
        dueFirst("and a half", y, 0, 0, "");
        cells(y, 2, 1);
        dueFirst("the wrong way about", y, 0, 0, "");
    }

    @Sentence(of = 8, says = "in so many ways (1000000 at most are counted)")
    static void readCountsAMillionAtMost() {
        DotWar x = new DotWar();
        for (int l = 0; l < 20; l++) {
            x.letter(0, l, l < 9 ? 10 : l < 10 ? 11 : 12);
        }
        shortOf(x, 0, "uv", 10, 11);
        shortOf(x, 0, "uv", 12, 10);
        shortOf(x, 0, "uv", 12, 11);
        shortOf(x, 0, "uv", 12, 12);
        cells(x, 12, 12, 11, 10, 12, 11, 12, 10);
        due("one less than a million", x.read(0, -1), 999999);
        DotWar y = new DotWar();
        for (int l = 0; l < 10; l++) {
            y.letter(0, l, 33);
        }
        cells(y, 33, 33, 33, 33, 33);
        due("a tenth", y.read(0, -1), 100000);
        y.dot(33);
        due("a million", y.read(0, -1), 1000000);
        y.letter(0, 10, 33);
        due("more", y.read(0, -1), 1000000);
        y.dot(33);
        due("much more", y.read(0, -1), 1000000);
        y.letter(0, 25, 44);
        y.dot(44);
        due("more, then one", y.read(0, -1), 1000000);
        y.dot(45);
        due("more, then none", y.read(0, -1), 0);
    }

    @Sentence(of = 8, says = "in so many ways (1000000 at most are counted)")
    static void readCountsAllItems() {
        DotWar x = new DotWar();
        for (int l = 0; l < 26; l++) {
            x.letter(2, l, 33);
        }
        for (int i = 0; i < 12; i++) {
            shortOf(x, 2, "wxyz", 33);
        }
        cells(x, 33);
        due("38 items", x.read(2, -1), 38);
        x.dot(33);
        due("38 by 38", x.read(2, -1), 1444);
        cells(x, 33, 33, 33, 33, 33, 33, 33, 33, 33, 33, 33, 33);
        due("twelve cells", x.read(2, -1), 1000000);
        due("48 letters", x.read(2, -2), 48);
        due("the first", x.read(2, 0), 22);
        due("the last", x.read(2, 47), 25);
        due("behind", x.read(2, 48), NONE);
        x.letter(2, 25, 34);
        cells(x, 34);
        dueFirst("the last item, behind twelve shorts that are not there", x, 2, 1, "z");
    }

    @Sentence(of = 8, says = "the FIRST way is the first by ITEMS")
    static void readFirstByItems() {
        DotWar x = new DotWar();
        alphabet(x, 0, 1, 2, 1, 2);
        cells(x, 1, 2);
        dueFirst("of two letters the first", x, 0, 4, "ab");
        shortOf(x, 0, "yz", 1, 2);
        shortOf(x, 0, "wx", 1);
        shortOf(x, 0, "uv", 1);
        cells(x, 1, 2);
        dueFirst("the first short", x, 0, 9, "yz");
        cells(x, 1);
        dueFirst("shorts before letters", x, 0, 4, "wx");
        DotWar y = new DotWar();
        shortOf(y, 1, "yz", 1, 2);
        alphabet(y, 1, 1);
        shortOf(y, 1, "ab", 2, 3);
        cells(y, 1, 2, 3);
        dueFirst("the first short would lead to no end", y, 1, 1, "aab");
        y.letter(1, 3, 3);
        dueFirst("now it does not", y, 1, 2, "yzd");
    }

    @Sentence(of = 8, says = "In how many ways the PAD's CELLS are READ (i = -1)")
    static void readTheIth() {
        DotWar x = made(ORDINARY);
        cells(x, 26, 1, 25);
        dueFirst("three cells", x, 3, 1, "zay");
        for (int i : new int[] {-3, -4, 3, 4, 256, 65536, MIN, MAX}) {
            due("i " + i, x.read(3, i), NONE);
        }
        due("the cells stay", x.told(1), 3);
    }

    @Sentence(of = 8, says = "how many LETTERS the FIRST way has (i = -2; 0: none), the i-th; NONE. UNKNOWN.")
    static void readInCodes0To4() {
        taken("code", 0, 4, NEW, (x, code) -> x.read(code, -1), 1);
        refusedBeyond("code", 0, 4, ORDINARY, (x, code) -> x.read(code, -1), UNKNOWN);
        refused("a code that is not, an i that is not", ORDINARY, x -> x.read(-1, 99), UNKNOWN);
    }

    @Sentence(of = 8, says = "CELLS of the PAD are READ as a row of ITEMS, in so many ways (1000000 at most are counted); "
            + "the FIRST way is the first by ITEMS.")
    static void readAsARowOfItems() {
        DotWar x = new DotWar();
        x.letter(0, 0, 7);
        shortOf(x, 0, "bc", 7, 7);
        int ways = 1;
        int before = 0;
        for (int size = 0; size <= 12; size++) {
            dueFirst(size + " cells by one or two", x, 0, ways, "bcbcbcbcbcbc".substring(0, size / 2 * 2) + "a".repeat(size % 2));
            x.dot(7);
            ways += before;
            before = ways - before;
        }
    }

    // ---- 9 ways

    @Sentence(of = 9, says = "how many CELLS (i = -1; 0: there is no such row), the i-th; NONE. UNKNOWN.")
    static void waysOfNoSuchRow() {
        for (int code = 0; code < 5; code++) {
            dueTwice("a new code", new DotWar(), code);
        }
        DotWar x = made(ORDINARY);
        dueTwice("26 letters", x, 3);
        DotWar y = new DotWar();
        shortOf(y, 0, "ab", 1, 1);
        dueTwice("one short alone", y, 0);
        shortOf(y, 0, "ab", 1, 2);
        shortOf(y, 0, "ab", 2, 1);
        dueTwice("shorts of two cells alone", y, 0);
        y.letter(0, 0, 2);
        dueTwice("with a letter", y, 0, 2, 1, 2);
        y.letter(0, 0, 0);
        dueTwice("without it again", y, 0);
    }

    @Sentence(of = 9, says = "two unlike rows of ITEMS (the same LETTERS or not) stand as")
    static void waysOfUnlikeItems() {
        DotWar x = new DotWar();
        x.letter(0, 0, 63);
        x.letter(0, 25, 63);
        dueTwice("two letters", x, 0, 63);
        x.letter(0, 25, 62);
        dueTwice("no more", x, 0);
        shortOf(x, 0, "bc", 62);
        dueTwice("a letter and a short", x, 0, 62);
        x.letter(0, 25, 0);
        shortOf(x, 0, "bc", 62);
        dueTwice("two shorts of the same letters", x, 0, 62);
        DotWar y = new DotWar();
        shortOf(y, 0, "bc", 5, 6);
        shortOf(y, 0, "bc", 5, 6);
        dueTwice("the same letters in two cells", y, 0, 5, 6);
        DotWar z = new DotWar();
        alphabet(z, 0, 5, 6);
        shortOf(z, 0, "ab", 5, 6);
        dueTwice("the same letters by letters and by a short", z, 0, 5, 6);
        DotWar w = new DotWar();
        w.letter(0, 0, 7);
        shortOf(w, 0, "aa", 7, 7);
        dueTwice("one cell twice", w, 0, 7, 7);
    }

    @Sentence(of = 9, says = "the shortest, of several the first by CELLS")
    static void waysTheShortest() {
        DotWar x = new DotWar();
        alphabet(x, 0, 1, 4);
        shortOf(x, 0, "ab", 1, 2);
        shortOf(x, 0, "ab", 2, 3);
        shortOf(x, 0, "ab", 3, 4);
        dueTwice("four", x, 0, 1, 2, 3, 4);
        alphabet(x, 0, 1, 4, 60);
        shortOf(x, 0, "ab", 60, 61);
        shortOf(x, 0, "ab", 61, 60);
        dueTwice("three, though later by cells", x, 0, 60, 61, 60);
        shortOf(x, 0, "cd", 62, 63);
        shortOf(x, 0, "ef", 62, 63);
        dueTwice("two, though later by cells", x, 0, 62, 63);
        x.letter(0, 25, 63);
        x.letter(0, 24, 63);
        dueTwice("one, though later by cells", x, 0, 63);
    }

    @Sentence(of = 9, says = "the shortest, of several the first by CELLS")
    static void waysTheFirstByCells() {
        for (int cell = 63; cell >= 1; cell--) {
            DotWar x = new DotWar();
            alphabet(x, 0, 63, 63, cell, cell);
            dueTwice("of one cell", x, 0, cell);
            DotWar y = new DotWar();
            shortOf(y, 0, "ab", 63, 63);
            shortOf(y, 0, "ab", 63, 63);
            shortOf(y, 0, "ab", 63, cell);
            shortOf(y, 0, "ab", 63, cell);
            dueTwice("of two cells", y, 0, 63, cell);
        }
        DotWar y = new DotWar();
        shortOf(y, 0, "ab", 40, 41);
        shortOf(y, 0, "ab", 40, 41);
        shortOf(y, 0, "ab", 40, 39);
        shortOf(y, 0, "ab", 40, 39);
        dueTwice("of two cells, by the second", y, 0, 40, 39);
        shortOf(y, 0, "ab", 39, 63);
        shortOf(y, 0, "ab", 39, 63);
        dueTwice("of two cells, by the first", y, 0, 39, 63);
        alphabet(y, 0, 38, 50);
        shortOf(y, 0, "ab", 38, 50);
        dueTwice("by letters, before two shorts", y, 0, 38, 50);
        shortOf(y, 0, "ab", 38, 49);
        shortOf(y, 0, "ab", 38, 49);
        dueTwice("by two shorts, before letters", y, 0, 38, 49);
        DotWar z = new DotWar();
        alphabet(z, 0, 10, 20);
        shortOf(z, 0, "ab", 10, 31);
        shortOf(z, 0, "ab", 31, 20);
        shortOf(z, 0, "ab", 10, 30);
        shortOf(z, 0, "ab", 30, 20);
        dueTwice("of three cells, by the second", z, 0, 10, 30, 20);
        shortOf(z, 0, "ab", 30, 10);
        dueTwice("of three cells, by the third", z, 0, 10, 30, 10);
    }

    @Sentence(of = 9, says = "TWO WAYS: how many CELLS (i = -1; 0: there is no such row), the i-th; NONE.")
    static void waysTheLongest() {
        DotWar x = new DotWar();
        for (int i = 0; i < 12; i++) {
            shortOf(x, 4, "ab", 63 - i, 62 - i);
        }
        alphabet(x, 4, 63, 51);
        dueTwice("thirteen", x, 4, 63, 62, 61, 60, 59, 58, 57, 56, 55, 54, 53, 52, 51);
        DotWar y = new DotWar();
        for (int i = 0; i < 12; i++) {
            shortOf(y, 0, "ab", i + 2, i + 1);
        }
        alphabet(y, 0, 13, 1);
        dueTwice("thirteen, the last short first", y, 0, 13, 12, 11, 10, 9, 8, 7, 6, 5, 4, 3, 2, 1);
        for (int i : new int[] {-3, 13, 14, 256, 65536, MIN, MAX}) {
            due("i " + i, x.ways(4, i), NONE);
        }
    }

    @Sentence(of = 9, says = "CODES 0 to 4 give LETTERS CELLS")
    static void waysInCodes0To4() {
        taken("code", 0, 4, NEW, (x, code) -> x.ways(code, -1), 0);
        refusedBeyond("code", 0, 4, ORDINARY, (x, code) -> x.ways(code, -1), UNKNOWN);
        refused("a code that is not, an i that is not", ORDINARY, x -> x.ways(5, 99), UNKNOWN);
    }

    @Sentence(of = 9, says = "TWO WAYS: the row of CELLS that two unlike rows of ITEMS (the same LETTERS or not) stand as: "
            + "the shortest, of several the first by CELLS.")
    static void waysIsReadTwiceAndNoRowBeforeIt() {
        dueFirstReadTwice("a letter by two", x -> alphabet(x, 0, 3, 2, 3));
        dueFirstReadTwice("two by one short", x -> {
            alphabet(x, 0, 3, 1);
            shortOf(x, 0, "ab", 3, 1);
        });
        dueFirstReadTwice("a ring of three", x -> {
            x.letter(0, 0, 2);
            shortOf(x, 0, "ab", 2, 1);
            shortOf(x, 0, "ab", 1, 3);
            shortOf(x, 0, "ab", 3, 2);
        });
        dueFirstReadTwice("two chains of three", x -> {
            alphabet(x, 0, 4, 3);
            shortOf(x, 0, "ab", 4, 2);
            shortOf(x, 0, "ab", 2, 4);
            shortOf(x, 0, "ab", 3, 1);
            shortOf(x, 0, "ab", 1, 4);
        });
        dueFirstReadTwice("a chain of five", x -> {
            alphabet(x, 0, 1, 5);
            shortOf(x, 0, "ab", 1, 4);
            shortOf(x, 0, "ab", 4, 2);
            shortOf(x, 0, "ab", 2, 3);
            shortOf(x, 0, "ab", 3, 5);
        });
    }

    /** Rows of cells 1 to 5 are gone through from the shortest and first on, until one is read in two ways. */
    private static void dueFirstReadTwice(String name, Setup code) {
        for (int size = 1, rows = 5; size <= 5; size++, rows *= 5) {
            for (int number = 0; number < rows; number++) {
                int[] row = new int[size];
                for (int i = size - 1, rest = number; i >= 0; i--, rest /= 5) {
                    row[i] = rest % 5 + 1;
                }
                DotWar x = made(code);
                cells(x, row);
                if (x.read(0, -1) > 1) {
                    dueTwice(name, x, 0, row);
                    return;
                }
            }
        }
        due(name + " is read twice", 0, 1);
    }
}
