/** Promises 15 to 21: their sentences, those that name boundary cases before all, each by a test of its own. */
public final class EdgesOfReadersTest extends Edges {
    private EdgesOfReadersTest() {
    }

    public static void main(String[] args) throws Exception {
        run(EdgesOfReadersTest.class, args);
    }

    /** One reader of some age who knows code 0 for some years. */
    private static DotWar readerOf(int age, int years) {
        DotWar x = new DotWar();
        x.reader(age, 0, true);
        x.know(0, 0, years);
        return x;
    }

    // ---- 15 reader

    @Sentence(of = 15, says = "an AGE (5 to 90)")
    static void readerOfAge5To90() {
        taken("age", 5, 90, NEW, (x, age) -> x.reader(age, 0, true), 0);
        for (int age = 5; age <= 90; age++) {
            due("her age", readerOf(age, 0).about(0, 0), age);
        }
        refusedBeyond("age", 5, 90, ORDINARY, (x, age) -> x.reader(age, 0, true), OUTSIDE);
    }

    @Sentence(of = 15, says = "A READER: her number. UNKNOWN: the SCHOOL; OUTSIDE; FULL.")
    static void readerAtSchools0To5() {
        taken("school", 0, 5, NEW, (x, school) -> x.reader(30, school, false), 0);
        refusedBeyond("school", 0, 5, ORDINARY, (x, school) -> x.reader(30, school, true), UNKNOWN);
    }

    @Sentence(of = 15, says = "READERS, 20 at most, numbered from 0 on")
    static void readerTwentyAtMost() {
        DotWar x = new DotWar();
        for (int i = 0; i < 20; i++) {
            due("reader " + i, x.reader(5 + i, i % 6, i % 2 == 1), i);
            due("readers", x.told(5), i + 1);
        }
        due("the twenty-first", x.reader(30, 0, true), FULL);
        due("the first is as she was", x.about(0, 0), 5);
        due("the last is as she was", x.about(19, 0), 24);
        refused("full", FILLED, y -> y.reader(30, 0, true), FULL);
    }

    @Sentence(of = 15, says = "YEARS of each CODE (0 to 50; 0 at first: it is not known)")
    static void readerKnowsNothingAtFirst() {
        DotWar x = new DotWar();
        for (int i = 0; i < 20; i++) {
            x.reader(30, 0, true);
            due("codes of " + i, x.about(i, 4), 0);
            for (int code = 0; code < 5; code++) {
                due("years of " + i, x.know(i, code, 50), 0);
            }
        }
    }

    @Sentence(of = 15, says = "Calls that are refused answer, the first of these that fits")
    static void readerUnknownOutsideFull() {
        refused("school and age", ORDINARY, x -> x.reader(4, 6, true), UNKNOWN);
        refused("school and full", FILLED, x -> x.reader(30, -1, true), UNKNOWN);
        refused("age and full", FILLED, x -> x.reader(91, 0, true), OUTSIDE);
        refused("all three", FILLED, x -> x.reader(91, 6, true), UNKNOWN);
    }

    @Sentence(of = 15, says = "an AGE (5 to 90), a SCHOOL (0 to 5), sighted or not, YEARS of each CODE")
    static void readerIsOfTheseThree() {
        for (int school = 0; school < 6; school++) {
            for (int age : new int[] {5, 6, 48, 89, 90}) {
                DotWar x = new DotWar();
                x.reader(age, school, true);
                x.reader(95 - age, 5 - school, false);
                due("her age", x.about(0, 0), age);
                due("her school", x.about(0, 1), school);
                due("she is sighted", x.about(0, 2), 1);
                due("the other's age", x.about(1, 0), 95 - age);
                due("the other's school", x.about(1, 1), 5 - school);
                due("she is not sighted", x.about(1, 2), 0);
            }
        }
    }

    // ---- 16 know

    @Sentence(of = 16, says = "READERS, 20 at most, numbered from 0 on")
    static void knowOfReadersThatAre() {
        taken("reader", 1, 18, FILLED, (x, reader) -> x.know(reader, 4, 9), 0);
        due("the first", made(FILLED).know(0, 0, 9), 50);
        due("the last", made(FILLED).know(19, 4, 9), 1);
        refusedBeyond("reader of twenty", 0, 19, FILLED, (x, reader) -> x.know(reader, 0, 9), UNKNOWN);
        refusedBeyond("reader of three", 0, 2, ORDINARY, (x, reader) -> x.know(reader, 0, 8), UNKNOWN);
        refused("reader 0 of none", NEW, x -> x.know(0, 0, 1), UNKNOWN);
    }

    @Sentence(of = 16, says = "CODES 0 to 4 give LETTERS CELLS")
    static void knowCodes0To4() {
        Setup one = then(NEW, x -> x.reader(30, 0, true));
        taken("code", 0, 4, one, (x, code) -> x.know(0, code, 50), 0);
        refusedBeyond("code", 0, 4, ORDINARY, (x, code) -> x.know(0, code, 7), UNKNOWN);
    }

    @Sentence(of = 16, says = "YEARS of each CODE (0 to 50; 0 at first: it is not known)")
    static void knowYears0To50() {
        Setup one = then(NEW, x -> x.reader(30, 0, true));
        taken("years", 0, 50, one, (x, years) -> x.know(0, 4, years), 0);
        refusedBeyond("years", 0, 50, ORDINARY, (x, years) -> x.know(0, 0, years), OUTSIDE);
    }

    @Sentence(of = 16, says = "YEARS of a CODE: how many they were.")
    static void knowTellsHowManyTheyWere() {
        DotWar x = made(one());
        int were = 0;
        for (int years : new int[] {50, 49, 1, 0, 0, 50}) {
            due("they were", x.know(0, 4, years), were);
            were = years;
        }
        due("another code", x.know(0, 3, 1), 0);
        x.reader(30, 0, true);
        due("another reader", x.know(1, 4, 1), 0);
    }

    private static Setup one() {
        return x -> x.reader(30, 0, true);
    }

    @Sentence(of = 16, says = "Calls that are refused answer, the first of these that fits")
    static void knowUnknownBeforeOutside() {
        refused("reader and years", ORDINARY, x -> x.know(3, 0, 51), UNKNOWN);
        refused("code and years", ORDINARY, x -> x.know(0, 5, -1), UNKNOWN);
        refused("all three", ORDINARY, x -> x.know(-1, -1, -1), UNKNOWN);
    }

    // ---- 17 move

    @Sentence(of = 17, says = "READERS, 20 at most, numbered from 0 on")
    static void moveOfReadersThatAre() {
        for (int reader = 0; reader < 20; reader++) {
            due("reader " + reader, made(FILLED).move(reader, 5), reader % 6);
        }
        refusedBeyond("reader of twenty", 0, 19, FILLED, (x, reader) -> x.move(reader, 5), UNKNOWN);
        refusedBeyond("reader of three", 0, 2, ORDINARY, (x, reader) -> x.move(reader, 5), UNKNOWN);
        refused("reader 0 of none", NEW, x -> x.move(0, 0), UNKNOWN);
    }

    @Sentence(of = 17, says = "a SCHOOL (0 to 5)")
    static void moveToSchools0To5() {
        taken("school", 0, 5, one(), (x, school) -> x.move(0, school), 0);
        refusedBeyond("school", 0, 5, ORDINARY, (x, school) -> x.move(0, school), UNKNOWN);
    }

    @Sentence(of = 17, says = "A READER goes to another SCHOOL: where she was.")
    static void moveTellsWhereSheWas() {
        DotWar x = made(one());
        int was = 0;
        for (int school : new int[] {5, 5, 1, 0, 0, 4}) {
            due("she was", x.move(0, school), was);
            due("she is", x.about(0, 1), school);
            due("readers there", x.school(school, 2), 1);
            was = school;
        }
        due("readers where she was first", x.school(0, 2), 0);
    }

    // ---- 18 about

    @Sentence(of = 18, says = "READERS, 20 at most, numbered from 0 on")
    static void aboutReadersThatAre() {
        for (int reader = 0; reader < 20; reader++) {
            due("reader " + reader, made(FILLED).about(reader, 0), 20 + reader);
        }
        refusedBeyond("reader of twenty", 0, 19, FILLED, (x, reader) -> x.about(reader, 0), UNKNOWN);
        refusedBeyond("reader of three", 0, 2, ORDINARY, (x, reader) -> x.about(reader, 0), UNKNOWN);
        refused("reader 0 of none", NEW, x -> x.about(0, 0), UNKNOWN);
    }

    @Sentence(of = 18, says = "4 CODES she knows, as bits, 10 to 14 YEARS of CODES. UNKNOWN; OUTSIDE.")
    static void aboutWhat() {
        int[] due = {30, 0, 1, 0, 3};
        for (int what = 0; what < 5; what++) {
            due("what " + what, made(ORDINARY).about(0, what), due[what]);
        }
        for (int what = 5; what < 10; what++) {
            int between = what;
            refused("what " + what, ORDINARY, x -> x.about(0, between), OUTSIDE);
        }
        due("years of 0", made(ORDINARY).about(0, 10), 9);
        due("years of 1", made(ORDINARY).about(0, 11), 9);
        due("years of 4", made(ORDINARY).about(1, 14), 2);
        refusedBeyond("what", 0, 14, ORDINARY, (x, what) -> x.about(0, what), OUTSIDE);
    }

    @Sentence(of = 18, says = "2 sighted (1, 0)")
    static void aboutSighted() {
        DotWar x = new DotWar();
        x.reader(30, 0, true);
        x.reader(30, 0, false);
        due("sighted", x.about(0, 2), 1);
        due("not sighted", x.about(1, 2), 0);
    }

    @Sentence(of = 18, says = "OWN CODE: that with the most YEARS, the first such (none, if all are 0).")
    static void aboutOwnCode() {
        DotWar x = made(one());
        due("none", x.about(0, 3), NONE);
        x.know(0, 4, 1);
        due("one year of the last", x.about(0, 3), 4);
        x.know(0, 0, 1);
        due("as many of the first", x.about(0, 3), 0);
        x.know(0, 4, 2);
        due("one more of the last", x.about(0, 3), 4);
        for (int code = 0; code < 5; code++) {
            x.know(0, code, 50);
        }
        due("as many of all", x.about(0, 3), 0);
        x.know(0, 0, 49);
        due("one less of the first", x.about(0, 3), 1);
        for (int code = 0; code < 5; code++) {
            x.know(0, code, 0);
        }
        due("none again", x.about(0, 3), NONE);
    }

    @Sentence(of = 18, says = "YEARS of each CODE (0 to 50; 0 at first: it is not known)")
    static void aboutKnownCodes() {
        DotWar x = made(one());
        int bits = 0;
        for (int code = 4; code >= 0; code--) {
            x.know(0, code, 1);
            bits |= 1 << code;
            due("one year of " + code + " more", x.about(0, 4), bits);
        }
        x.know(0, 2, 0);
        due("all but one", x.about(0, 4), 27);
    }

    @Sentence(of = 18, says = "Calls that are refused answer, the first of these that fits")
    static void aboutUnknownBeforeOutside() {
        refused("reader and what", ORDINARY, x -> x.about(3, 5), UNKNOWN);
        refused("reader and what, both far", ORDINARY, x -> x.about(MIN, MAX), UNKNOWN);
    }

    @Sentence(of = 18, says = "Of a READER: 0 AGE, 1 SCHOOL, 2 sighted (1, 0), 3 OWN CODE (NONE), 4 CODES she knows, as bits, "
            + "10 to 14 YEARS of CODES.")
    static void aboutEachOfTwenty() {
        DotWar x = new DotWar();
        for (int r = 0; r < 20; r++) {
            x.reader(5 + 4 * r, (r + 1) % 6, r % 3 == 0);
            for (int code = 0; code < 5; code++) {
                x.know(r, code, yearsOf(r, code));
            }
        }
        for (int r = 0; r < 20; r++) {
            due("age of " + r, x.about(r, 0), 5 + 4 * r);
            due("school of " + r, x.about(r, 1), (r + 1) % 6);
            due("sight of " + r, x.about(r, 2), r % 3 == 0 ? 1 : 0);
            due("own code of " + r, x.about(r, 3), r == 0 ? NONE : r % 5);
            int known = 0;
            for (int code = 0; code < 5; code++) {
                due("years of " + r + " in " + code, x.about(r, 10 + code), yearsOf(r, code));
                known |= yearsOf(r, code) > 0 ? 1 << code : 0;
            }
            due("codes of " + r, x.about(r, 4), known);
        }
    }

    /** Reader 0 knows none; each other one has most years of the code that her number leaves by 5. */
    private static int yearsOf(int reader, int code) {
        return reader == 0 ? 0 : code == reader % 5 ? 30 + reader : reader * (code + 1) % 7;
    }

    // ---- 19 near

    @Sentence(of = 19, says = "CODES 0 to 4 give LETTERS CELLS")
    static void nearInCodes0To4() {
        taken("code", 0, 4, NEW, (x, code) -> x.near(code, 1), 0);
        refusedBeyond("code", 0, 4, ORDINARY, (x, code) -> x.near(code, 1), UNKNOWN);
    }

    @Sentence(of = 19, says = "CELLS are 1 to 63 (six points, as bits)")
    static void nearCells1To63() {
        taken("cell", 1, 63, NEW, (x, cell) -> x.near(0, cell), 0);
        refusedBeyond("cell", 1, 63, ORDINARY, (x, cell) -> x.near(3, cell), OUTSIDE);
    }

    @Sentence(of = 19, says = "Calls that are refused answer, the first of these that fits")
    static void nearUnknownBeforeOutside() {
        refused("code and cell", ORDINARY, x -> x.near(5, 0), UNKNOWN);
        refused("code and cell on the other side", ORDINARY, x -> x.near(-1, 64), UNKNOWN);
    }

    @Sentence(of = 19, says = "other CELLS that LETTERS of it have (each CELL once)")
    static void nearEachCellOnce() {
        DotWar x = new DotWar();
        for (int l = 0; l < 26; l++) {
            x.letter(0, l, 3);
        }
        due("26 letters of one cell", x.near(0, 1), 1);
        due("not itself", x.near(0, 3), 0);
        shortOf(x, 0, "ab", 5);
        shortOf(x, 0, "ab", 9, 33);
        due("cells of shorts are not counted", x.near(0, 1), 1);
        x.letter(1, 0, 5);
        due("nor those of another code", x.near(0, 1), 1);
        due("a cell that no letter has", x.near(1, 4), 1);
        x.letter(1, 0, 0);
        due("no cell is no cell", x.near(1, 4), 0);
    }

    @Sentence(of = 19, says = "and that differ by just one point")
    static void nearByJustOnePoint() {
        DotWar x = new DotWar();
        alphabet(x, 0, 62, 61, 59, 55, 47, 31);
        due("all six", x.near(0, 63), 6);
        due("two points differ", x.near(0, 62), 0);
        alphabet(x, 1, 33, 34, 36, 40, 48);
        due("five of the least", x.near(1, 32), 5);
        x.letter(1, 25, 1);
        due("by the highest point", x.near(1, 33), 1);
        due("from the other side", x.near(1, 1), 1);
        for (int cell = 1; cell <= 63; cell++) {
            DotWar y = new DotWar();
            y.letter(0, 0, 21);
            due("of " + cell, y.near(0, cell), Integer.bitCount(cell ^ 21) == 1 ? 1 : 0);
        }
    }

    @Sentence(of = 19, says = "NEAR a CELL in a CODE: other CELLS that LETTERS of it have (each CELL once) and that differ by just one point.")
    static void nearOfEveryCell() {
        int[] alphabet = {1, 3, 9, 25, 17, 11, 27, 19, 10, 26, 5, 7, 13, 29, 21, 15, 31, 23, 14, 30, 37, 39, 58, 45, 61, 53};
        DotWar x = new DotWar();
        alphabet(x, 4, alphabet);
        shortOf(x, 4, "th", 63);
        for (int cell = 1; cell <= 63; cell++) {
            int near = 0;
            for (int other : alphabet) {
                near += Integer.bitCount(cell ^ other) == 1 ? 1 : 0;
            }
            due("cell " + cell, x.near(4, cell), near);
            due("cell " + cell + " of a code without letters", x.near(3, cell), 0);
        }
    }

    @Sentence(of = 19, says = "How many are NEAR a CELL.")
    static void nearHowMany() {
        for (int cell = 1; cell <= 63; cell++) {
            DotWar x = new DotWar();
            x.letter(2, 25, cell);
            int near = 0;
            for (int point = 0; point < 6; point++) {
                int other = cell ^ 1 << point;
                x.letter(2, point, other);
                near += other == 0 ? 0 : 1;
                due("of " + cell + " with " + other, x.near(2, cell), near);
            }
            x.letter(2, 6, cell ^ 33);
            due("of " + cell + " with one that two points make", x.near(2, cell), near);
        }
    }

    // ---- 20 pace

    @Sentence(of = 20, says = "PACE. UNKNOWN; STATE: she does not know the CODE; NO: it can not be WRITTEN.")
    static void paceOfReadersThatAre() {
        refusedBeyond("reader of twenty", 0, 19, FILLED, (x, reader) -> x.pace(reader, 0), UNKNOWN);
        refusedBeyond("reader of three", 0, 2, ORDINARY, (x, reader) -> x.pace(reader, 0), UNKNOWN);
        refused("reader 0 of none", NEW, x -> x.pace(0, 0), UNKNOWN);
        refusedBeyond("code", 0, 4, ORDINARY, (x, code) -> x.pace(0, code), UNKNOWN);
        for (int code = 0; code < 5; code++) {
            DotWar x = made(FILLED);
            x.know(19, code, 1);
            x.wipe(0);
            due("the last reader in " + code, x.pace(19, code), 0);
        }
    }

    @Sentence(of = 20, says = "STATE: she does not know the CODE")
    static void paceOfAKnownCode() {
        DotWar x = readerOf(30, 0);
        due("0 years", x.pace(0, 0), STATE);
        x.know(0, 0, 1);
        due("1 year", x.pace(0, 0), 0);
        due("another code", x.pace(0, 1), STATE);
        x.know(0, 0, 0);
        due("0 years again", x.pace(0, 0), STATE);
        refused("changes nothing", ORDINARY, y -> y.pace(1, 0), STATE);
    }

    @Sentence(of = 20, says = "NO: it can not be WRITTEN.")
    static void paceOfLettersThatCanNotBe() {
        DotWar x = readerOf(30, 1);
        due("no letters", x.pace(0, 0), 0);
        x.say(0);
        due("one without a cell", x.pace(0, 0), NO);
        x.letter(0, 0, 1);
        due("with a cell", x.pace(0, 0), 30);
        x.say(1);
        due("a second without a cell", x.pace(0, 0), NO);
        refused("changes nothing", ORDINARY, y -> y.pace(0, 1), NO);
    }

    @Sentence(of = 20, says = "Calls that are refused answer, the first of these that fits")
    static void paceUnknownStateNo() {
        refused("unknown code, and not known", ORDINARY, x -> x.pace(1, 5), UNKNOWN);
        refused("unknown reader, and it could not be", ORDINARY, x -> x.pace(3, 2), UNKNOWN);
        refused("not known, and it could not be", ORDINARY, x -> x.pace(0, 2), STATE);
    }

    @Sentence(of = 20, says = "and by how much AGE is above 60")
    static void paceAbove60() {
        int[][] due = {{5, 125}, {59, 125}, {60, 125}, {61, 126}, {62, 127}, {90, 155}};
        for (int[] one : due) {
            DotWar x = readerOf(one[0], 11);
            x.letter(0, 0, 31);
            pad(x, "aaaaa");
            due("100 at " + one[0], x.pace(0, 0), one[1]);
        }
    }

    @Sentence(of = 20, says = "300 by (YEARS and 1)")
    static void paceByYears() {
        int[][] due = {{1, 250}, {2, 200}, {3, 175}, {6, 142}, {49, 106}, {50, 105}};
        for (int[] one : due) {
            DotWar x = readerOf(30, one[0]);
            x.letter(0, 0, 31);
            pad(x, "aaaaa");
            due("100 of " + one[0] + " years", x.pace(0, 0), one[1]);
        }
    }

    @Sentence(of = 20, says = "Quotients are cut.")
    static void paceIsCut() {
        DotWar x = readerOf(60, 6);
        x.letter(0, 0, 1);
        pad(x, "a");
        due("12 by 142: 17.04", x.pace(0, 0), 17);
        pad(x, "aaaaaaaaaa");
        due("the sum is cut, not each: 170.4", x.pace(0, 0), 170);
        x.letter(0, 1, 3);
        pad(x, "aaaaaa");
        due("90 by 142: 127.8", x.pace(0, 0), 127);
        DotWar y = readerOf(90, 1);
        alphabet(y, 0, 63, 62, 61, 59, 55, 47, 31);
        pad(y, "aaaaaaaaaa");
        due("ten of (10, 12 and 18) by 280", y.pace(0, 0), 1120);
    }

    @Sentence(of = 20, says = "PACE: LETTERS of the PAD as WRITTEN: the sum over CELLS of")
    static void paceAsWritten() {
        DotWar x = readerOf(30, 50);
        alphabet(x, 0, 1, 2, 4);
        shortOf(x, 0, "ab", 3);
        shortOf(x, 0, "abc", 7);
        pad(x, "ab");
        due("a short near two letters: (10, 4 and 6) by 105", x.pace(0, 0), 21);
        pad(x, "abc");
        due("a short near none: (10, 6) by 105", x.pace(0, 0), 16);
        pad(x, "ba");
        due("letters near none: 24 by 105", x.pace(0, 0), 25);
        x.know(0, 0, 1);
        x.know(0, 1, 50);
        due("by years of this code, not of her own", x.pace(0, 0), 60);
    }

    @Sentence(of = 20, says = "PACE: LETTERS of the PAD as WRITTEN: the sum over CELLS of (10, twice their points and 3 times those NEAR), "
            + "times (100, 300 by (YEARS and 1), and by how much AGE is above 60) by 100.")
    static void paceByAllOfIt() {
        // a: 10, 2 and 3; b: 10, 4 and 6; c: 10, 6 and 3; the short of d: 10, 8 and 3, then 10, 2 and 0
        String[] texts = {"", "a", "b", "c", "abc", "dd", "abcddcbadd"};
        int[] sums = {0, 15, 20, 19, 54, 33, 174};
        for (int age : new int[] {5, 30, 60, 61, 75, 90}) {
            for (int years : new int[] {1, 2, 6, 12, 49, 50}) {
                DotWar x = readerOf(age, years);
                alphabet(x, 0, 1, 3, 7);
                shortOf(x, 0, "dd", 15, 32);
                for (int i = 0; i < texts.length; i++) {
                    pad(x, texts[i]);
                    int by = 100 + 300 / (years + 1) + Math.max(age, 60) - 60;
                    due(texts[i] + " at " + age + " by " + years, x.pace(0, 0), sums[i] * by / 100);
                }
            }
        }
    }

    // ---- 21 learn

    /** Code 1 has so many letters with cells, unlike all of code 0. */
    private static DotWar learnerOf(int age, int unlike) {
        DotWar x = readerOf(age, 1);
        for (int l = 0; l < unlike; l++) {
            x.letter(1, 25 - l, 63);
        }
        return x;
    }

    @Sentence(of = 21, says = "MONTHS; NONE. UNKNOWN.")
    static void learnOfReadersThatAre() {
        taken("reader", 0, 19, FILLED, (x, reader) -> x.learn(reader, 2), 0);
        refusedBeyond("reader of twenty", 0, 19, FILLED, (x, reader) -> x.learn(reader, 0), UNKNOWN);
        refusedBeyond("reader of three", 0, 2, ORDINARY, (x, reader) -> x.learn(reader, 0), UNKNOWN);
        refused("reader 0 of none", NEW, x -> x.learn(0, 0), UNKNOWN);
        taken("code", 0, 4, one(), (x, code) -> x.learn(0, code), 0);
        refusedBeyond("code", 0, 4, ORDINARY, (x, code) -> x.learn(0, code), UNKNOWN);
    }

    @Sentence(of = 21, says = "NONE: AGE is above 70, and 14 or more are UNLIKE.")
    static void learnAbove70And14() {
        due("70, 13", learnerOf(70, 13).learn(0, 1), 44);
        due("70, 14", learnerOf(70, 14).learn(0, 1), 47);
        due("71, 13", learnerOf(71, 13).learn(0, 1), 44);
        due("71, 14", learnerOf(71, 14).learn(0, 1), NONE);
        due("70, 26", learnerOf(70, 26).learn(0, 1), 88);
        due("71, 26", learnerOf(71, 26).learn(0, 1), NONE);
        due("90, 13", learnerOf(90, 13).learn(0, 1), 49);
        due("90, 14", learnerOf(90, 14).learn(0, 1), NONE);
        due("5, 26", learnerOf(5, 26).learn(0, 1), 54);
        DotWar x = learnerOf(71, 13);
        for (int i = 0; i < 12; i++) {
            shortOf(x, 1, "ab", 1);
        }
        due("shorts are not unlike letters: 62 by 171", x.learn(0, 1), 106);
    }

    @Sentence(of = 21, says = "0, if she knows it")
    static void learnWhatSheKnows() {
        DotWar x = learnerOf(71, 14);
        x.know(0, 0, 50);
        due("not known", x.learn(0, 1), NONE);
        x.know(0, 1, 1);
        due("known, though not her own", x.learn(0, 1), 0);
        due("her own", x.learn(0, 0), 0);
        x.know(0, 1, 0);
        due("not known again", x.learn(0, 1), NONE);
        DotWar y = learnerOf(30, 1);
        due("not known at 30", y.learn(0, 1), 2);
        y.know(0, 1, 1);
        due("known at 30", y.learn(0, 1), 0);
    }

    @Sentence(of = 21, says = "UNLIKE are LETTERS that have a CELL in it, and another one (or none) in her OWN CODE (all, if she has none)")
    static void learnUnlike() {
        DotWar x = readerOf(5, 0);
        alphabet(x, 1, 1, 2, 3);
        alphabet(x, 0, 1, 2, 3, 4, 5);
        due("no own code: all three, 6 by 105", x.learn(0, 1), 6);
        due("no own code: all five, 10 by 105", x.learn(0, 0), 10);
        x.know(0, 0, 1);
        due("all alike", x.learn(0, 1), 0);
        x.letter(0, 0, 2);
        due("another one", x.learn(0, 1), 2);
        x.letter(0, 1, 0);
        due("another one, and none: 4 by 105", x.learn(0, 1), 4);
        x.letter(1, 0, 0);
        due("none in the code is nothing to learn", x.learn(0, 1), 2);
        x.know(0, 4, 2);
        due("her own code is of no cells: 4 by 105", x.learn(0, 1), 4);
    }

    @Sentence(of = 21, says = "(twice as many as these, and 3 for each SHORT) times (100 and AGE) by 100")
    static void learnShorts() {
        DotWar x = readerOf(90, 0);
        for (int i = 1; i <= 12; i++) {
            shortOf(x, 0, "ab", 1);
            due(i + " shorts", x.learn(0, 0), 3 * i * 190 / 100);
        }
        for (int l = 0; l < 13; l++) {
            x.letter(0, l, 1);
        }
        due("the most there is at 90: 62 by 190", x.learn(0, 0), 117);
        DotWar y = readerOf(70, 0);
        for (int l = 0; l < 26; l++) {
            y.letter(0, l, 1);
        }
        for (int i = 0; i < 12; i++) {
            shortOf(y, 0, "ab", 1);
        }
        due("the most there is: 88 by 170", y.learn(0, 0), 149);
    }

    @Sentence(of = 21, says = "Quotients are cut.")
    static void learnIsCut() {
        due("2 by 149", learnerOf(49, 1).learn(0, 1), 2);
        due("2 by 150", learnerOf(50, 1).learn(0, 1), 3);
        due("2 by 151", learnerOf(51, 1).learn(0, 1), 3);
        due("6 by 133: 7.98", learnerOf(33, 3).learn(0, 1), 7);
    }

    @Sentence(of = 21, says = "MONTHS to learn a CODE: UNLIKE are LETTERS that have a CELL in it, and another one (or none) in her OWN CODE "
            + "(all, if she has none): (twice as many as these, and 3 for each SHORT) times (100 and AGE) by 100")
    static void learnByAllOfIt() {
        for (int age = 5; age <= 90; age += 5) {
            for (int unlike = 0; unlike < 14; unlike++) {
                DotWar x = learnerOf(age, unlike);
                for (int l = 0; l < 12; l++) {
                    x.letter(0, l, l + 1);
                    x.letter(1, l, l + 1);
                }
                for (int shorts = 0; shorts <= 12; shorts += 4) {
                    due(unlike + " and " + shorts + " at " + age, x.learn(0, 1), (2 * unlike + 3 * shorts) * (100 + age) / 100);
                    for (int i = 0; i < 4; i++) {
                        shortOf(x, 1, "ab", 1);
                        shortOf(x, 0, "ab", 1);
                    }
                }
                due("her own", x.learn(0, 0), 0);
            }
        }
    }
}
