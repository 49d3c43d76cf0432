/** Promises 31 to 35: their sentences, those that name boundary cases before all, each by a test of its own. */
public final class EdgesOfMixesTest extends Edges {
    private static final int[] TENS = {1000000, 100000, 10000, 1000, 100, 10, 1};

    private EdgesOfMixesTest() {
    }

    public static void main(String[] args) throws Exception {
        run(EdgesOfMixesTest.class, args);
    }

    /** Letters 0 to 6 are of parts 0 to 6, and have cells in code 0 alone. */
    private static void sevenParts(DotWar x) {
        for (int l = 0; l < 7; l++) {
            x.part(l, l);
            x.letter(0, l, l + 1);
        }
    }

    // ---- 31 part

    @Sentence(of = 31, says = "LETTERS are 0 to 25")
    static void partOfLetters0To25() {
        taken("letter", 0, 25, NEW, (x, l) -> x.part(l, 6), NONE);
        refusedBeyond("letter", 0, 25, ORDINARY, (x, l) -> x.part(l, 1), UNKNOWN);
    }

    @Sentence(of = 31, says = "each LETTER is of a PART 0 to 6, or of none (at first)")
    static void partMinus1To6() {
        taken("part", -1, 6, NEW, (x, p) -> x.part(25, p), NONE);
        refusedBeyond("part", -1, 6, ORDINARY, (x, p) -> x.part(0, p), OUTSIDE);
        refused("part NONE", ORDINARY, x -> x.part(0, NONE), OUTSIDE);
    }

    @Sentence(of = 31, says = "PART of a LETTER (-1: none): which it was (NONE).")
    static void partTellsWhichItWas() {
        DotWar x = new DotWar();
        int was = NONE;
        for (int p : new int[] {0, 6, -1, -1, 6, 0, 5, 1, 2, 3, 4}) {
            due("it was", x.part(25, p), was);
            was = p == -1 ? NONE : p;
        }
        due("another letter", x.part(24, 0), NONE);
    }

    @Sentence(of = 31, says = "Calls that are refused answer, the first of these that fits")
    static void partUnknownBeforeOutside() {
        refused("letter and part", ORDINARY, x -> x.part(26, 7), UNKNOWN);
        refused("letter and part on the other side", ORDINARY, x -> x.part(-1, -2), UNKNOWN);
    }

    @Sentence(of = 31, says = "PARTS: each LETTER is of a PART 0 to 6, or of none (at first).")
    static void partEachIsItsOwn() {
        DotWar x = new DotWar();
        for (int l = 0; l < 26; l++) {
            due("none at first", x.part(l, l % 8 - 1), NONE);
        }
        for (int l = 0; l < 26; l++) {
            due("letter " + l, x.part(l, 6 - l % 7), l % 8 == 0 ? NONE : l % 8 - 1);
        }
        for (int l = 25; l >= 0; l--) {
            due("letter " + l + " again", x.part(l, -1), 6 - l % 7);
        }
    }

    // ---- 32 mix

    @Sentence(of = 32, says = "by digits (CODES of PARTS 0 to 6, the first one the highest): 1, 0. OUTSIDE.")
    static void mixByDigits0To4() {
        for (int p = 0; p < 7; p++) {
            for (int digit = 0; digit <= 4; digit++) {
                int digits = digit * TENS[p];
                due("digits " + digits, new DotWar().mix(digits), 1);
            }
            for (int digit = 5; digit <= 9; digit++) {
                int digits = digit * TENS[p];
                int fours = 4444444 - 4 * TENS[p] + digits;
                refused("digits " + digits, ORDINARY, x -> x.mix(digits), OUTSIDE);
                refused("digits " + fours, ORDINARY, x -> x.mix(fours), OUTSIDE);
            }
        }
        due("the most", new DotWar().mix(4444444), 1);
    }

    @Sentence(of = 32, says = "by digits (CODES of PARTS 0 to 6, the first one the highest): 1, 0. OUTSIDE.")
    static void mixOfSevenDigits() {
        refusedBeyond("digits", 0, 4444444, ORDINARY, (x, digits) -> x.mix(digits), OUTSIDE);
        for (int digits : new int[] {-1, -10, -1000000, -4444444, 10000000, 14444444, 20000000, 100000000, 1000000000, 2000000000,
            4444445, 4444450, 5000000}) {
            refused("digits " + digits, ORDINARY, x -> x.mix(digits), OUTSIDE);
        }
    }

    @Sentence(of = 32, says = "CODES of PARTS 0 to 6, the first one the highest")
    static void mixTheFirstIsTheHighest() {
        for (int p = 0; p < 7; p++) {
            for (int code = 0; code < 5; code++) {
                DotWar x = new DotWar();
                x.part(9, p);
                x.letter(code, 9, 63);
                due("part " + p + " of code " + code, x.mix(code * TENS[p]), 1);
                due("part " + p + " of another", x.mix((code + 1) % 5 * TENS[p]), 0);
                due("digits of other parts do not matter", x.mix(3333333 - 3 * TENS[p] + code * TENS[p]), 1);
            }
        }
    }

    @Sentence(of = 32, says = "It may be, if all of them have CELLS, no two alike.")
    static void mixAllHaveCells() {
        DotWar x = made(EdgesOfMixesTest::sevenParts);
        due("all have", x.mix(0), 1);
        for (int l = 0; l < 7; l++) {
            x.letter(0, l, 0);
            due("letter " + l + " has none", x.mix(0), 0);
            x.letter(0, l, l + 1);
        }
        due("all have again", x.mix(0), 1);
        x.part(25, 6);
        due("one more without", x.mix(0), 0);
        x.part(25, -1);
        due("a letter of no part needs none", x.mix(0), 1);
    }

    @Sentence(of = 32, says = "It may be, if all of them have CELLS, no two alike.")
    static void mixNoTwoAlike() {
        DotWar x = made(EdgesOfMixesTest::sevenParts);
        for (int l = 0; l < 7; l++) {
            for (int other = 0; other < 7; other++) {
                x.letter(0, l, other + 1);
                due(l + " as " + other, x.mix(0), l == other ? 1 : 0);
            }
            x.letter(0, l, l + 1);
        }
        x.letter(0, 25, 1);
        due("a letter of no part may be alike", x.mix(0), 1);
        x.part(25, 0);
        due("of the same part it may not", x.mix(0), 0);
        DotWar y = new DotWar();
        y.part(0, 0);
        y.part(25, 6);
        y.letter(1, 0, 63);
        y.letter(2, 25, 63);
        y.letter(3, 25, 62);
        due("alike in two codes", y.mix(1000002), 0);
        due("not alike", y.mix(1000003), 1);
        DotWar z = new DotWar();
        for (int l = 0; l < 26; l++) {
            z.part(l, l % 7);
            z.letter(4, l, 63 - l);
        }
        due("26 letters", z.mix(4444444), 1);
        z.letter(4, 25, 63);
        due("the last as the first", z.mix(4444444), 0);
    }

    @Sentence(of = 32, says = "A MIX: each PART that has LETTERS is of one CODE: its LETTERS have the CELLS of that.")
    static void mixOfEveryThree() {
        for (int digits = 0; digits < 125; digits++) {
            int[] codes = {digits / 25, digits / 5 % 5, digits % 5};
            DotWar x = made(EdgesOfMixesTest::threeParts);
            boolean may = true;
            for (int l = 0; l < 6; l++) {
                for (int other = 0; other < l; other++) {
                    may &= THREE[codes[l / 2]][l] != THREE[codes[other / 2]][other];
                }
                may &= THREE[codes[l / 2]][l] != 0;
            }
            int mix = 100000 * codes[0] + 1000 * codes[1] + codes[2];
            due("mix " + mix, x.mix(mix), may ? 1 : 0);
            due("whatever parts without letters are of", x.mix(mix + 4030210), may ? 1 : 0);
        }
    }

    /** Cells of letters 0 to 5 in each code; two letters each are of parts 1, 3 and 6. */
    private static final int[][] THREE = {{1, 2, 3, 4, 5, 6}, {2, 1, 4, 3, 6, 7}, {8, 9, 5, 8, 1, 0}, {6, 5, 9, 10, 11, 12}, {13, 13, 14, 15, 3, 16}};

    private static void threeParts(DotWar x) {
        int[] parts = {1, 1, 3, 3, 6, 6};
        for (int l = 0; l < 6; l++) {
            x.part(l, parts[l]);
            for (int code = 0; code < 5; code++) {
                x.letter(code, l, THREE[code][l]);
            }
        }
    }

    @Sentence(of = 32, says = "Whether a MIX may be, by digits (CODES of PARTS 0 to 6, the first one the highest): 1, 0.")
    static void mixIsOnlyAsked() {
        DotWar x = made(EdgesOfMixesTest::threeParts);
        due("it may be", x.mix(0), 1);
        due("it may not: part 1 of code 4", x.mix(400000), 0);
        due("it may not: part 6 of code 2", x.mix(2), 0);
        due("it may: part 3 of code 4", x.mix(4000), 1);
        due("it may still be", x.mix(0), 1);
        for (int code = 0; code < 5; code++) {
            for (int l = 0; l < 6; l++) {
                due("cells stay", x.letter(code, l, THREE[code][l]), THREE[code][l]);
            }
        }
    }

    // ---- 33 anew

    @Sentence(of = 33, says = "ANEW of a MIX. OUTSIDE; NO: it may not be.")
    static void anewByDigits() {
        refusedBeyond("digits", 0, 4444444, ORDINARY, (x, digits) -> x.anew(digits), OUTSIDE);
        for (int p = 0; p < 7; p++) {
            int five = 5 * TENS[p];
            int four = 4 * TENS[p];
            refused("digits " + five, ORDINARY, x -> x.anew(five), OUTSIDE);
            due("digits " + four, new DotWar().anew(four), 0);
        }
        refused("digits 10000000", ORDINARY, x -> x.anew(10000000), OUTSIDE);
        due("the most", new DotWar().anew(4444444), 0);
    }

    @Sentence(of = 33, says = "NO: it may not be.")
    static void anewOfNoMix() {
        DotWar x = made(EdgesOfMixesTest::sevenParts);
        due("it may be", x.anew(0), 0);
        due("a part without cells", x.anew(1), NO);
        x.letter(1, 6, 1);
        due("two alike", x.anew(1), NO);
        x.letter(1, 6, 63);
        due("now not", x.anew(1), 0);
        refused("no cells", ORDINARY, y -> y.anew(2222222), NO);
        refused("one of none", ORDINARY, y -> y.anew(0), NO);
    }

    @Sentence(of = 33, says = "Calls that are refused answer, the first of these that fits")
    static void anewOutsideBeforeNo() {
        refused("a digit, and it may not be", ORDINARY, x -> x.anew(2222225), OUTSIDE);
        refused("below 0, and it may not be", ORDINARY, x -> x.anew(-2222222), OUTSIDE);
    }

    @Sentence(of = 33, says = "the sum over READERS who have an OWN CODE of how many LETTERS of PARTS have another CELL in that (or none)")
    static void anewSums() {
        DotWar x = made(EdgesOfMixesTest::sevenParts);
        due("no readers", x.anew(0), 0);
        x.reader(30, 0, true);
        due("a reader without a code", x.anew(0), 0);
        x.know(0, 0, 1);
        due("her own", x.anew(0), 0);
        x.reader(30, 5, false);
        x.know(1, 4, 1);
        due("one whose code has none", x.anew(0), 7);
        x.letter(4, 6, 6);
        due("another one is anew too", x.anew(0), 7);
        x.letter(4, 6, 7);
        due("one is alike", x.anew(0), 6);
        x.letter(4, 25, 63);
        due("a letter of no part is not counted", x.anew(0), 6);
        x.letter(0, 25, 62);
        x.part(25, 6);
        due("of a part it is", x.anew(0), 7);
        x.know(1, 0, 1);
        due("as many years of code 0: it is her own", x.anew(0), 0);
        x.know(1, 0, 0);
        x.know(1, 4, 0);
        due("no own code again", x.anew(0), 0);
        for (int code = 0; code < 5; code++) {
            DotWar y = new DotWar();
            y.part(25, 6);
            y.letter((code + 1) % 5, 25, 63);
            y.reader(30, 0, true);
            y.know(0, code, 1);
            due("none in her own, " + code, y.anew((code + 1) % 5), 1);
            y.letter(code, 25, 62);
            due("another one in her own, " + code, y.anew((code + 1) % 5), 1);
            y.letter(code, 25, 63);
            due("the same in her own, " + code, y.anew((code + 1) % 5), 0);
        }
    }

    @Sentence(of = 33, says = "ANEW of a MIX.")
    static void anewTheMost() {
        DotWar x = new DotWar();
        for (int l = 0; l < 26; l++) {
            x.part(l, l % 7);
            x.letter(0, l, l + 1);
        }
        for (int i = 0; i < 20; i++) {
            x.reader(30, 0, true);
            x.know(i, 4, 1);
        }
        due("26 for twenty", x.anew(0), 520);
        due("parts of a code without cells", x.anew(4444444), NO);
    }

    @Sentence(of = 33, says = "ANEW: the sum over READERS who have an OWN CODE of how many LETTERS of PARTS have another CELL in that (or none).")
    static void anewOfEveryThree() {
        int[] own = {0, 1, 1, 2, 4, 4, 4};
        int best = NO;
        int least = MAX;
        DotWar asked = made(EdgesOfMixesTest::threeParts);
        readersFor(asked, own);
        for (int digits = 0; digits < 125; digits++) {
            int[] codes = {digits / 25, digits / 5 % 5, digits % 5};
            DotWar x = made(EdgesOfMixesTest::threeParts);
            readersFor(x, own);
            int mix = 100000 * codes[0] + 1000 * codes[1] + codes[2];
            int sum = 0;
            for (int code : own) {
                for (int l = 0; l < 6; l++) {
                    sum += THREE[code][l] == THREE[codes[l / 2]][l] ? 0 : 1;
                }
            }
            boolean may = x.mix(mix) == 1;
            due("anew of " + mix, x.anew(mix), may ? sum : NO);
            if (may && sum < least) {
                least = sum;
                best = mix;
            }
        }
        due("the first of the least", asked.best(), best);
    }

    /** One reader for each own code; more who have none. */
    private static void readersFor(DotWar x, int[] own) {
        for (int r = 0; r < own.length; r++) {
            x.reader(30, r % 6, true);
            x.know(r, own[r], 2);
            x.know(r, 3, 1);
        }
        x.reader(30, 0, true);
    }

    // ---- 34 best

    @Sentence(of = 34, says = "THE BEST MIX, as digits; NO: none may be.")
    static void bestOfNone() {
        DotWar x = new DotWar();
        due("no parts", x.best(), 0);
        x.part(0, 6);
        due("a part that has no cell in any code", x.best(), NO);
        x.letter(4, 0, 1);
        due("one code has it", x.best(), 4);
        x.part(1, 0);
        due("a second that has none", x.best(), NO);
        x.letter(4, 1, 1);
        due("two alike", x.best(), NO);
        x.letter(3, 1, 2);
        due("not in another code", x.best(), 3000004);
        x.part(1, 6);
        due("but they must be of one", x.best(), NO);
        refused("changes nothing", then(ORDINARY, y -> y.letter(3, 25, 0)), y -> y.best(), NO);
    }

    @Sentence(of = 34, says = "with the least ANEW, of several the first by CODES of PARTS 0 to 6")
    static void bestTheFirstByCodes() {
        DotWar x = made(EdgesOfMixesTest::sevenParts);
        for (int code = 1; code < 5; code++) {
            for (int l = 0; l < 7; l++) {
                x.letter(code, l, 7 * code + l + 1);
            }
        }
        due("all codes will do, none has readers", x.best(), 0);
        x.letter(0, 6, 0);
        due("the last part can not", x.best(), 1);
        x.letter(0, 0, 0);
        due("nor the first", x.best(), 1000001);
        x.reader(30, 0, true);
        x.know(0, 4, 1);
        due("a reader", x.best(), 4444444);
        x.reader(30, 0, true);
        x.know(1, 3, 1);
        due("one each: the first", x.best(), 3333333);
        x.letter(3, 3, 39);
        x.letter(4, 3, 39);
        due("still the first", x.best(), 3333333);
        x.reader(30, 0, true);
        x.know(2, 4, 1);
        due("two and one", x.best(), 4443444);
    }

    @Sentence(of = 34, says = "THE BEST MIX: with the least ANEW")
    static void bestTheLeastBeforeTheFirst() {
        DotWar x = new DotWar();
        x.part(0, 0);
        x.part(1, 1);
        alphabet(x, 0, 1, 2);
        alphabet(x, 4, 2, 3);
        x.reader(30, 0, true);
        x.know(0, 4, 50);
        due("her own", x.best(), 4400000);
        x.letter(4, 1, 2);
        due("hers are alike: one anew, the first by codes", x.best(), 0);
        x.letter(0, 1, 4);
        due("part 1 of code 0", x.best(), 400000);
        due("its cost is that of the other", x.anew(400000), 1);
        due("the other", x.anew(4000000), 1);
        x.letter(0, 0, 2);
        due("code 0 has hers for part 0", x.best(), 0);
        due("one", x.anew(0), 1);
        for (int code = 1; code < 5; code++) {
            DotWar y = new DotWar();
            y.part(0, 0);
            y.part(1, 1);
            y.letter(0, 0, 1);
            y.letter(code, 0, 2);
            y.letter(0, 1, 3);
            y.letter(code % 4 + 1, 1, 4);
            for (int i = 0; i < 3; i++) {
                y.reader(30, 0, true);
                y.know(i, i == 0 ? 0 : code, 1);
            }
            due("four anew", y.anew(0), 4);
            due("three anew", y.anew(code * 1000000), 3);
            due("part 0 of another code, part 1 of the first", y.best(), code * 1000000);
        }
    }

    @Sentence(of = 34, says = "It may be, if all of them have CELLS, no two alike.")
    static void bestNoTwoAlikeWhateverTheCell() {
        for (int cell = 1; cell <= 63; cell++) {
            for (int part = 1; part < 7; part++) {
                DotWar x = new DotWar();
                x.part(0, 0);
                x.part(25, part);
                x.letter(0, 0, cell);
                x.letter(0, 25, cell);
                due("both have " + cell, x.best(), NO);
                x.letter(4, 25, 64 - cell);
                due("another code has " + (64 - cell), x.best(), cell == 32 ? NO : 4 * TENS[part]);
                x.part(25, 0);
                due("both of one part", x.best(), NO);
                x.letter(4, 0, cell);
                due("both of code 4", x.best(), cell == 32 ? NO : 4000000);
            }
        }
    }

    @Sentence(of = 34, says = "(PARTS without LETTERS: 0)")
    static void bestOfPartsWithoutLetters() {
        for (int p = 0; p < 7; p++) {
            DotWar x = new DotWar();
            x.reader(30, 0, true);
            x.know(0, 4, 1);
            x.part(13, p);
            x.letter(4, 13, 5);
            due("only part " + p, x.best(), 4 * TENS[p]);
            x.part(13, -1);
            due("then none", x.best(), 0);
        }
    }

    @Sentence(of = 34, says = "THE BEST MIX, as digits; NO: none may be.")
    static void bestOfAll() {
        DotWar x = new DotWar();
        for (int l = 0; l < 26; l++) {
            x.part(l, l % 7);
            x.letter(4, l, l + 1);
            x.letter(3, l, l + 27);
        }
        for (int i = 0; i < 20; i++) {
            x.reader(30, 0, true);
            x.know(i, 4, 1);
        }
        due("all of code 4", x.best(), 4444444);
        due("nothing anew", x.anew(4444444), 0);
        x.letter(4, 25, 0);
        due("one of part 4 has none", x.best(), 4444344);
        due("four letters anew for twenty", x.anew(4444344), 80);
        x.letter(3, 25, 0);
        due("nor in code 3", x.best(), NO);
    }

    // ---- 35 told

    @Sentence(of = 35, says = "10 to 14 SHORTS of CODES, 20 to 24 LETTERS of CODES that have CELLS. OUTSIDE.")
    static void toldWhat() {
        for (int what = -300; what <= 300; what++) {
            boolean is = what >= 0 && what <= 6 || what >= 10 && what <= 14 || what >= 20 && what <= 24;
            due("what " + what, new DotWar().told(what), is ? 0 : OUTSIDE);
        }
        for (int what : new int[] {-1, 7, 8, 9, 15, 16, 17, 18, 19, 25, 26, 256, 65536, MIN, MIN + 10, MAX}) {
            refused("what " + what, ORDINARY, x -> x.told(what), OUTSIDE);
        }
    }

    @Sentence(of = 35, says = "0 LETTERS, 1 CELLS on the PADS, 2 signs, 3 WORDS, 4 ROWS, 5 READERS, 6 copies of all")
    static void toldWhenFilled() {
        int[] due = {10, 12, 40, 30, 12, 20, 100};
        for (int what = 0; what < due.length; what++) {
            due("what " + what, made(FILLED).told(what), due[what]);
        }
        due("shorts of 0", made(FILLED).told(10), 12);
        due("letters of 3", made(FILLED).told(23), 26);
        DotWar x = new DotWar();
        for (int school = 0; school < 6; school++) {
            for (int book = 0; book < 8; book++) {
                for (int code = 0; code < 5; code++) {
                    x.shelf(school, book, code, 100);
                }
            }
        }
        due("the most copies", x.told(6), 24000);
    }

    @Sentence(of = 35, says = "10 to 14 SHORTS of CODES, 20 to 24 LETTERS of CODES that have CELLS")
    static void toldOfCodes() {
        DotWar x = new DotWar();
        for (int code = 0; code < 5; code++) {
            for (int i = 0; i <= code; i++) {
                shortOf(x, code, "ab", 1);
                x.letter(code, 25 - 2 * i, 1);
                x.letter(code, 24 - 2 * i, 1);
            }
        }
        for (int code = 0; code < 5; code++) {
            due("shorts of " + code, x.told(10 + code), code + 1);
            due("letters of " + code, x.told(20 + code), 2 * code + 2);
        }
        x.letter(4, 25, 0);
        due("one less", x.told(24), 9);
    }
}
