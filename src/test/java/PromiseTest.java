/** Each promise of the document: ordinary inputs, the edges it names, wrong inputs. */
public final class PromiseTest extends Hands {
    private PromiseTest() {
    }

    public static void main(String[] args) {
        promise1();
        promise2();
        promise3();
        promise4();
        promise5();
        promise6();
        promise7();
        promise8();
        promise9();
        promise10();
        promise11();
        promise12();
        promise13();
        promise14();
        promise15();
        promise16();
        promise17();
        promise18();
        promise19();
        promise20();
        promise21();
        promise22();
        promise23();
        promise24();
        promise25();
        promise26();
        promise27();
        promise28();
        promise29();
        promise30();
        promise31();
        promise32();
        promise33();
        promise34();
        promise35();
        Due.end();
    }

    private static void promise1() {
        DotWar x = new DotWar();
        for (int what = 0; what <= 6; what++) {
            due("new told " + what, x.told(what), 0);
        }
        for (int code = 0; code < 5; code++) {
            due("new shorts", x.told(10 + code), 0);
            due("new letters", x.told(20 + code), 0);
            for (int l = 0; l < 26; l++) {
                due("new cell", x.letter(code, l, 0), 0);
            }
        }
        for (int l = 0; l < 26; l++) {
            due("new part", x.part(l, -1), NONE);
        }
        for (int school = 0; school < 6; school++) {
            due("new school", x.school(school, 2), 0);
            due("new copies", x.school(school, 1), 0);
            due("new voters", x.voters(school), 0);
            due("new rule", boardOf(x, school, "a>0"), 1);
            for (int book = 0; book < 8; book++) {
                due("new shelf", x.shelf(school, book, 4, 0), 0);
            }
        }
        DotWar y = new DotWar();
        due("another object's own", y.told(2), 0);
        due("another object's rule", boardOf(y, 0, "a>0"), 1);
        due("UNKNOWN", DotWar.UNKNOWN, -1);
        due("OUTSIDE", DotWar.OUTSIDE, -2);
        due("STATE", DotWar.STATE, -3);
        due("FULL", DotWar.FULL, -4);
        due("NO", DotWar.NO, -5);
        due("NONE", DotWar.NONE, -6);
    }

    private static void promise2() {
        DotWar x = new DotWar();
        due("letter", x.letter(4, 25, 63), 0);
        due("letter again", x.letter(4, 25, 1), 63);
        due("letter none", x.letter(4, 25, 0), 1);
        due("letter was none", x.letter(4, 25, 1), 0);
        due("two letters may have one cell", x.letter(4, 24, 1), 0);
        due("letters of the code", x.told(24), 2);
        due("another code's", x.told(23), 0);
        due("code 5", x.letter(5, 0, 1), UNKNOWN);
        due("code -1", x.letter(-1, 0, 1), UNKNOWN);
        due("letter 26", x.letter(0, 26, 1), UNKNOWN);
        due("letter -1", x.letter(0, -1, 1), UNKNOWN);
        due("unknown before outside", x.letter(0, 26, 64), UNKNOWN);
        due("cell 64", x.letter(0, 0, 64), OUTSIDE);
        due("cell -1", x.letter(4, 25, -1), OUTSIDE);
        due("extremes", x.letter(MIN, MAX, MIN), UNKNOWN);
        due("extreme cell", x.letter(0, 0, MAX), OUTSIDE);
        due("refused changes nothing", x.letter(4, 25, 1), 1);
    }

    private static void promise3() {
        DotWar x = new DotWar();
        due("say -1", x.say(-1), UNKNOWN);
        due("say 26", x.say(26), UNKNOWN);
        for (int i = 1; i <= 10; i++) {
            due("say", x.say(26 - i), i);
        }
        due("say full", x.say(0), FULL);
        due("unknown before full", x.say(26), UNKNOWN);
        due("say MIN", x.say(MIN), UNKNOWN);
        due("letters", x.told(0), 10);
    }

    private static void promise4() {
        DotWar x = new DotWar();
        due("dot 0", x.dot(0), OUTSIDE);
        due("dot 64", x.dot(64), OUTSIDE);
        due("dot -1", x.dot(-1), OUTSIDE);
        for (int i = 1; i <= 12; i++) {
            due("dot", x.dot(i == 12 ? 63 : i), i);
        }
        due("dot full", x.dot(1), FULL);
        due("outside before full", x.dot(0), OUTSIDE);
        due("cells", x.told(1), 12);
    }

    private static void promise5() {
        DotWar x = new DotWar();
        pad(x, "abc");
        cells(x, 1, 2);
        signs(x, "a>12");
        due("wipe 3", x.wipe(3), OUTSIDE);
        due("wipe -1", x.wipe(-1), OUTSIDE);
        due("wipe MAX", x.wipe(MAX), OUTSIDE);
        due("wipe letters", x.wipe(0), 3);
        due("cells stay", x.told(1), 2);
        due("wipe cells", x.wipe(1), 2);
        due("signs stay", x.told(2), 4);
        due("wipe signs", x.wipe(2), 4);
        due("letters again", x.wipe(0), 0);
        due("cells again", x.wipe(1), 0);
        due("signs again", x.wipe(2), 0);
        due("say anew", x.say(3), 1);
    }

    private static void promise6() {
        DotWar x = new DotWar();
        due("nothing", x.abbreviate(0), NO);
        due("code 5", x.abbreviate(5), UNKNOWN);
        due("code -1", x.abbreviate(-1), UNKNOWN);
        due("one letter", shortOf(x, 0, "a", 1), NO);
        due("the pads stay", x.told(0) * 100 + x.told(1), 101);
        due("five letters", shortOf(x, 0, "abcde", 1), NO);
        due("no cells", shortOf(x, 0, "ab"), NO);
        due("three cells", shortOf(x, 0, "ab", 1, 2, 3), NO);
        due("two letters", shortOf(x, 0, "ab", 1), 0);
        due("pads are empty", x.told(0) + x.told(1), 0);
        due("four letters, two cells", shortOf(x, 0, "abcd", 63, 63), 1);
        due("another code", shortOf(x, 4, "abc", 1, 2), 0);
        for (int i = 2; i < 12; i++) {
            due("more", shortOf(x, 0, "ab", 1), i);
        }
        due("full", shortOf(x, 0, "ab", 1), FULL);
        due("full keeps the pads", x.told(0) * 100 + x.told(1), 201);
        x.wipe(0);
        due("full before no", x.abbreviate(0), FULL);
        due("shorts", x.told(10), 12);
        due("shorts of 4", x.told(14), 1);
    }

    private static void promise7() {
        DotWar x = new DotWar();
        due("code 5", x.write(5, -1), UNKNOWN);
        due("code -1", x.write(-1, 0), UNKNOWN);
        dueRow("no letters", x, 0);
        pad(x, "a");
        due("no cell", x.write(0, -1), NO);
        due("no cell, points", x.write(0, -2), NO);
        due("no cell, any", x.write(0, 99), NO);
        alphabet(x, 0, 1, 3, 9, 25);
        pad(x, "abca");
        dueRow("letters", x, 0, 1, 3, 9, 1);
        due("i -3", x.write(0, -3), NONE);
        due("i MIN", x.write(0, MIN), NONE);
        due("i MAX", x.write(0, MAX), NONE);
        shortOf(x, 0, "bc", 63);
        shortOf(x, 0, "abc", 63, 63);
        pad(x, "abc");
        dueRow("the fewest points", x, 0, 1, 63);
        shortOf(x, 0, "ab", 7, 7);
        shortOf(x, 0, "ab", 62);
        pad(x, "abc");
        dueRow("as many points: the first by items", x, 0, 62, 9);
        shortOf(x, 0, "ab", 61);
        pad(x, "ab");
        dueRow("the first by items", x, 0, 62);
        pad(x, "abab");
        dueRow("twice", x, 0, 62, 62);
        pad(x, "abd");
        dueRow("with a letter", x, 0, 62, 25);
        due("the pad stays", x.told(0), 3);
        DotWar y = new DotWar();
        shortOf(y, 2, "xy", 5, 6);
        pad(y, "xyxyxyxyxy");
        dueRow("shorts alone", y, 2, 5, 6, 5, 6, 5, 6, 5, 6, 5, 6);
        pad(y, "xyx");
        due("a rest", y.write(2, -1), NO);
        alphabet(y, 3, 1, 2, 4);
        shortOf(y, 3, "bc", 8);
        shortOf(y, 3, "ab", 16);
        pad(y, "abc");
        dueRow("a short before a letter", y, 3, 16, 4);
        DotWar z = new DotWar();
        alphabet(z, 1, 1, 2);
        shortOf(z, 1, "ab", 2, 1);
        pad(z, "ab");
        dueRow("a short is before letters", z, 1, 2, 1);
    }

    private static void promise8() {
        DotWar x = new DotWar();
        due("code 5", x.read(5, -1), UNKNOWN);
        due("code -1", x.read(-1, -1), UNKNOWN);
        dueFirst("no cells", x, 0, 1, "");
        cells(x, 1);
        dueFirst("no way", x, 0, 0, "");
        alphabet(x, 0, 1, 3, 1);
        dueFirst("two letters", x, 0, 2, "a");
        cells(x, 1, 3, 1);
        dueFirst("four ways", x, 0, 4, "aba");
        due("i -3", x.read(0, -3), NONE);
        due("i MIN", x.read(0, MIN), NONE);
        shortOf(x, 0, "zzzz", 3, 1);
        cells(x, 1, 3, 1);
        dueFirst("a short at the end", x, 0, 6, "azzzz");
        shortOf(x, 0, "yx", 1, 3);
        cells(x, 1, 3, 1);
        dueFirst("the first by items", x, 0, 8, "yxa");
        cells(x, 1, 3, 1, 5);
        dueFirst("a cell of none", x, 0, 0, "");
        DotWar y = new DotWar();
        shortOf(y, 1, "abcd", 7, 7);
        y.letter(1, 25, 7);
        cells(y, 7, 7, 7);
        dueFirst("a short is first, then the rest", y, 1, 3, "abcdz");
        y.letter(1, 25, 0);
        cells(y, 7, 7, 7);
        dueFirst("an odd rest", y, 1, 0, "");
        DotWar z = new DotWar();
        for (int l = 0; l < 26; l++) {
            z.letter(2, l, 33);
        }
        cells(z, 33, 33, 33, 33);
        due("26^4", z.read(2, -1), 456976);
        z.dot(33);
        due("at most", z.read(2, -1), 1000000);
        for (int i = 0; i < 12; i++) {
            shortOf(z, 2, "wxyz", 33);
        }
        cells(z, 33, 33, 33, 33, 33, 33, 33, 33, 33, 33, 33, 33);
        due("at most, all", z.read(2, -1), 1000000);
        due("48 letters", z.read(2, -2), 48);
        due("the last", z.read(2, 47), 25);
        due("behind", z.read(2, 48), NONE);
        z.letter(2, 3, 44);
        cells(z, 44);
        dueFirst("none of twelve shorts", z, 2, 1, "d");
        DotWar w = new DotWar();
        alphabet(w, 0, 1, 1, 1, 1, 1, 1, 1, 1, 1, 1);
        cells(w, 1, 1, 1, 1, 1, 1);
        due("just the most", w.read(0, -1), 1000000);
    }

    private static void promise9() {
        DotWar x = new DotWar();
        due("code 5", x.ways(5, -1), UNKNOWN);
        due("code -1", x.ways(-1, -1), UNKNOWN);
        dueTwice("nothing", x, 0);
        alphabet(x, 0, 10, 20, 30);
        dueTwice("letters alone", x, 0);
        shortOf(x, 0, "ab", 30, 10);
        dueTwice("a short of two cells", x, 0, 30, 10);
        shortOf(x, 0, "ab", 25, 26);
        shortOf(x, 0, "ab", 25, 26);
        dueTwice("two alike, before it", x, 0, 25, 26);
        shortOf(x, 0, "ab", 31, 2);
        shortOf(x, 0, "cd", 31, 2);
        dueTwice("two alike, behind it", x, 0, 25, 26);
        shortOf(x, 0, "cd", 20);
        dueTwice("a short as a letter", x, 0, 20);
        x.letter(0, 25, 10);
        dueTwice("the first of them", x, 0, 10);

        DotWar chain = new DotWar();
        for (int i = 1; i <= 12; i++) {
            shortOf(chain, 3, "ab", i, i + 1);
        }
        chain.letter(3, 0, 1);
        dueTwice("a chain without an end", chain, 3);
        chain.letter(3, 1, 13);
        dueTwice("the longest chain", chain, 3, 1, 2, 3, 4, 5, 6, 7, 8, 9, 10, 11, 12, 13);
        chain.letter(3, 2, 10);
        dueTwice("the shortest chain", chain, 3, 10, 11, 12, 13);

        DotWar ring = new DotWar();
        ring.letter(0, 0, 9);
        shortOf(ring, 0, "ab", 9, 5);
        shortOf(ring, 0, "ab", 5, 9);
        dueTwice("a ring", ring, 0, 9, 5, 9);
        shortOf(ring, 0, "cd", 9, 4);
        shortOf(ring, 0, "cd", 4, 9);
        dueTwice("the first ring", ring, 0, 9, 4, 9);
        shortOf(ring, 0, "ef", 9, 9);
        dueTwice("the least ring", ring, 0, 9, 9);

        DotWar fork = new DotWar();
        alphabet(fork, 1, 2, 3, 50);
        shortOf(fork, 1, "ab", 3, 1);
        shortOf(fork, 1, "ab", 1, 50);
        shortOf(fork, 1, "ab", 2, 60);
        shortOf(fork, 1, "ab", 60, 3);
        dueTwice("the first start", fork, 1, 2, 60, 3);
        shortOf(fork, 1, "cd", 2, 59);
        dueTwice("a way to nowhere", fork, 1, 2, 60, 3);

        DotWar alone = new DotWar();
        shortOf(alone, 4, "ab", 7, 8);
        dueTwice("one of two cells", alone, 4);
        shortOf(alone, 4, "ab", 7, 8);
        dueTwice("the same letters, the same cells", alone, 4, 7, 8);
        alone.letter(4, 0, 8);
        alone.letter(4, 1, 7);
        dueTwice("both kinds at once", alone, 4, 7, 8);
        DotWar far = new DotWar();
        alphabet(far, 0, 1, 4);
        shortOf(far, 0, "ab", 1, 2);
        shortOf(far, 0, "ab", 2, 4);
        dueTwice("three cells", far, 0, 1, 2, 4);
        shortOf(far, 0, "ab", 62, 63);
        shortOf(far, 0, "cd", 62, 63);
        dueTwice("two cells are fewer", far, 0, 62, 63);
    }

    private static void promise10() {
        DotWar x = new DotWar();
        due("an empty pad", x.word(), NO);
        for (int i = 0; i < 30; i++) {
            due("word", wordOf(x, i % 2 == 0 ? "a" : "abcdefghij"), i);
            due("the pad is empty", x.told(0), 0);
        }
        due("full before no", x.word(), FULL);
        due("full", wordOf(x, "a"), FULL);
        due("full keeps the pad", x.told(0), 1);
        due("words", x.told(3), 30);
    }

    private static void promise11() {
        DotWar x = new DotWar();
        due("no word", x.count(0, 0, 1), UNKNOWN);
        wordOf(x, "ab");
        due("count", x.count(7, 0, 1000), 0);
        due("count was", x.count(7, 0, 0), 1000);
        due("count was 0", x.count(7, 0, 3), 0);
        due("another book", x.count(6, 0, 0), 0);
        due("book 8", x.count(8, 0, 1), UNKNOWN);
        due("book -1", x.count(-1, 0, 1), UNKNOWN);
        due("word 1", x.count(0, 1, 1), UNKNOWN);
        due("word -1", x.count(0, -1, 1), UNKNOWN);
        due("unknown before outside", x.count(0, 1, -1), UNKNOWN);
        due("n -1", x.count(7, 0, -1), OUTSIDE);
        due("n 1001", x.count(7, 0, 1001), OUTSIDE);
        due("refused changes nothing", x.count(7, 0, 3), 3);
    }

    private static void promise12() {
        DotWar x = new DotWar();
        due("an empty book", x.room(0, 0, 0), 0);
        due("no points", x.room(0, 0, 1), 0);
        due("no pages", x.room(0, 0, 2), 0);
        due("book 8", x.room(8, 0, 0), UNKNOWN);
        due("book -1", x.room(-1, 0, 0), UNKNOWN);
        due("code 5", x.room(0, 5, 0), UNKNOWN);
        due("code -1", x.room(0, -1, 3), UNKNOWN);
        due("what 3", x.room(0, 0, 3), OUTSIDE);
        due("what -1", x.room(0, 0, -1), OUTSIDE);
        wordOf(x, "abab");
        wordOf(x, "c");
        wordOf(x, "z");
        alphabet(x, 0, 7, 3, 63);
        x.count(0, 0, 50);
        due("one full page", x.room(0, 0, 2), 1);
        x.count(0, 1, 1);
        due("cells", x.room(0, 0, 0), 201);
        due("points", x.room(0, 0, 1), 506);
        due("pages", x.room(0, 0, 2), 2);
        x.count(0, 2, 1);
        due("a word can not be", x.room(0, 0, 0), NO);
        due("outside before no", x.room(0, 0, 3), OUTSIDE);
        x.count(0, 2, 0);
        due("it is not in it", x.room(0, 0, 0), 201);
        shortOf(x, 0, "ba", 1);
        due("shorts", x.room(0, 0, 0), 151);
        due("points of shorts", x.room(0, 0, 1), 306);
        DotWar y = new DotWar();
        y.letter(1, 0, 63);
        for (int w = 0; w < 30; w++) {
            wordOf(y, "aaaaaaaaaa");
            y.count(3, w, 1000);
        }
        due("the most cells", y.room(3, 1, 0), 300000);
        due("the most points", y.room(3, 1, 1), 1800000);
        due("the most pages", y.room(3, 1, 2), 1500);
    }

    private static void promise13() {
        DotWar x = new DotWar();
        due("no letters", x.row(), NO);
        due("one letter", rowOf(x, "a"), NO);
        due("the pad stays", x.told(0), 1);
        due("five letters", rowOf(x, "abcde"), NO);
        for (int i = 0; i < 12; i++) {
            due("row", rowOf(x, i % 2 == 0 ? "ab" : "abcd"), i);
            due("the pad is empty", x.told(0), 0);
        }
        due("full before no", x.row(), FULL);
        due("full", rowOf(x, "ab"), FULL);
        due("rows", x.told(4), 12);
    }

    private static void promise14() {
        DotWar x = new DotWar();
        due("nothing", x.chosen(0, 0, 0, 0), 0);
        due("nothing, cells", x.chosen(0, 0, 12, 1), 0);
        due("book 8", x.chosen(8, 0, 0, 0), UNKNOWN);
        due("book -1", x.chosen(-1, 0, 13, 0), UNKNOWN);
        due("code 5", x.chosen(0, 5, 0, 0), UNKNOWN);
        due("code -1", x.chosen(0, -1, 0, 2), UNKNOWN);
        due("k 13", x.chosen(0, 0, 13, 0), OUTSIDE);
        due("k -1", x.chosen(0, 0, -1, 0), OUTSIDE);
        due("what 2", x.chosen(0, 0, 0, 2), OUTSIDE);
        due("what -1", x.chosen(0, 0, 0, -1), OUTSIDE);
        alphabet(x, 0, 1, 2, 3, 4);
        shortOf(x, 0, "abcd", 9);
        wordOf(x, "abcd");
        wordOf(x, "abab");
        x.count(0, 0, 10);
        x.count(0, 1, 10);
        due("none of the shorts", x.chosen(0, 0, 0, 1), 80);
        rowOf(x, "zz");
        rowOf(x, "ab");
        rowOf(x, "ab");
        rowOf(x, "cd");
        rowOf(x, "abcd");
        due("k 0", x.chosen(0, 0, 0, 0), 0);
        due("k 1", x.chosen(0, 0, 1, 0), 2);
        due("k 1, cells", x.chosen(0, 0, 1, 1), 50);
        due("k 2: abcd saves as cd does not", x.chosen(0, 0, 2, 0), 18);
        due("k 2, cells", x.chosen(0, 0, 2, 1), 30);
        due("k 12: the fewest rows", x.chosen(0, 0, 12, 0), 18);
        x.count(0, 0, 0);
        due("k 2 of one word", x.chosen(0, 0, 2, 0), 2);
        due("k 2 of one word, cells", x.chosen(0, 0, 2, 1), 20);
        x.letter(0, 1, 0);
        due("k 0 can not be", x.chosen(0, 0, 0, 0), NO);
        due("k 1 can", x.chosen(0, 0, 1, 1), 20);
        x.count(0, 0, 1);
        x.letter(0, 3, 0);
        due("k 1 can not for both", x.chosen(0, 0, 1, 0), NO);
        due("k 2 can", x.chosen(0, 0, 2, 0), 18);
        due("k 2 can, cells", x.chosen(0, 0, 2, 1), 21);
        wordOf(x, "y");
        x.count(0, 2, 1);
        due("a word that none helps", x.chosen(0, 0, 12, 1), NO);
        due("another book", x.chosen(1, 0, 12, 1), 0);
        DotWar y = new DotWar();
        alphabet(y, 2, 1, 2, 3);
        wordOf(y, "aab");
        y.count(7, 0, 1000);
        rowOf(y, "ab");
        rowOf(y, "aa");
        due("the least as bits", y.chosen(7, 2, 1, 0), 1);
        due("the least as bits, of two", y.chosen(7, 2, 2, 0), 1);
        due("cells", y.chosen(7, 2, 2, 1), 2000);
    }

    private static void promise15() {
        DotWar x = new DotWar();
        due("school 6", x.reader(30, 6, true), UNKNOWN);
        due("school -1", x.reader(4, -1, true), UNKNOWN);
        due("age 4", x.reader(4, 0, true), OUTSIDE);
        due("age 91", x.reader(91, 0, true), OUTSIDE);
        for (int i = 0; i < 20; i++) {
            due("reader", x.reader(i % 2 == 0 ? 5 : 90, i % 6, i % 3 == 0), i);
        }
        due("full", x.reader(30, 0, true), FULL);
        due("unknown before full", x.reader(30, 6, true), UNKNOWN);
        due("outside before full", x.reader(4, 0, true), OUTSIDE);
        due("readers", x.told(5), 20);
    }

    private static void promise16() {
        DotWar x = new DotWar();
        due("no reader", x.know(0, 0, 1), UNKNOWN);
        x.reader(30, 0, true);
        due("know", x.know(0, 4, 50), 0);
        due("was", x.know(0, 4, 0), 50);
        due("was 0", x.know(0, 4, 7), 0);
        due("code 5", x.know(0, 5, 1), UNKNOWN);
        due("code -1", x.know(0, -1, 51), UNKNOWN);
        due("reader 1", x.know(1, 0, 1), UNKNOWN);
        due("reader -1", x.know(-1, 0, 1), UNKNOWN);
        due("years 51", x.know(0, 4, 51), OUTSIDE);
        due("years -1", x.know(0, 4, -1), OUTSIDE);
        due("refused changes nothing", x.know(0, 4, 7), 7);
    }

    private static void promise17() {
        DotWar x = new DotWar();
        due("no reader", x.move(0, 0), UNKNOWN);
        x.reader(30, 2, true);
        due("move", x.move(0, 5), 2);
        due("move to the same", x.move(0, 5), 5);
        due("school 6", x.move(0, 6), UNKNOWN);
        due("school -1", x.move(0, -1), UNKNOWN);
        due("reader -1", x.move(-1, 0), UNKNOWN);
        due("she is there", x.about(0, 1), 5);
        due("there", x.school(5, 2), 1);
        due("no more here", x.school(2, 2), 0);
    }

    private static void promise18() {
        DotWar x = new DotWar();
        due("no reader", x.about(0, 0), UNKNOWN);
        x.reader(33, 2, true);
        x.reader(44, 3, false);
        due("age", x.about(1, 0), 44);
        due("school", x.about(1, 1), 3);
        due("not sighted", x.about(1, 2), 0);
        due("sighted", x.about(0, 2), 1);
        due("no own code", x.about(0, 3), NONE);
        due("knows none", x.about(0, 4), 0);
        x.know(0, 2, 7);
        x.know(0, 4, 7);
        x.know(0, 1, 6);
        due("the first of the most", x.about(0, 3), 2);
        due("codes", x.about(0, 4), 22);
        due("years 0", x.about(0, 10), 0);
        due("years 1", x.about(0, 11), 6);
        due("years 4", x.about(0, 14), 7);
        due("the other's", x.about(1, 4), 0);
        x.know(0, 4, 8);
        due("now more", x.about(0, 3), 4);
        for (int what : new int[] {-1, 5, 9, 15, MIN, MAX}) {
            due("what " + what, x.about(0, what), OUTSIDE);
        }
        due("unknown before outside", x.about(2, 5), UNKNOWN);
        due("reader -1", x.about(-1, 0), UNKNOWN);
    }

    private static void promise19() {
        DotWar x = new DotWar();
        due("code 5", x.near(5, 1), UNKNOWN);
        due("code -1", x.near(-1, 0), UNKNOWN);
        due("cell 0", x.near(0, 0), OUTSIDE);
        due("cell 64", x.near(0, 64), OUTSIDE);
        due("cell -1", x.near(0, -1), OUTSIDE);
        due("none", x.near(0, 63), 0);
        alphabet(x, 0, 1, 3, 3, 5, 7, 1, 33);
        due("each cell once", x.near(0, 1), 3);
        due("not itself, not two points", x.near(0, 3), 2);
        due("a cell of no letter", x.near(0, 35), 2);
        due("no points is no cell", x.near(0, 2), 1);
        shortOf(x, 0, "ab", 9);
        due("not shorts", x.near(0, 1), 3);
        alphabet(x, 1, 62, 61, 59, 55, 47, 31);
        due("all six", x.near(1, 63), 6);
    }

    private static void promise20() {
        DotWar x = new DotWar();
        due("no reader", x.pace(0, 0), UNKNOWN);
        x.reader(60, 0, true);
        x.reader(90, 0, true);
        due("code 5", x.pace(0, 5), UNKNOWN);
        due("code -1", x.pace(0, -1), UNKNOWN);
        due("reader -1", x.pace(-1, 0), UNKNOWN);
        due("not known", x.pace(0, 0), STATE);
        x.know(0, 0, 1);
        x.know(1, 0, 50);
        due("no letters", x.pace(0, 0), 0);
        pad(x, "a");
        due("can not be", x.pace(0, 0), NO);
        due("state before no", x.pace(0, 1), STATE);
        x.letter(0, 0, 1);
        due("12 by 250", x.pace(0, 0), 30);
        due("12 by 135", x.pace(1, 0), 16);
        x.letter(0, 1, 3);
        due("15 by 250", x.pace(0, 0), 37);
        x.know(0, 0, 6);
        due("15 by 142", x.pace(0, 0), 21);
        shortOf(x, 0, "ab", 2, 63);
        pad(x, "aba");
        due("the first by points: 15 + 17 + 15", x.pace(0, 0), 66);
        shortOf(x, 0, "ab", 35);
        pad(x, "aba");
        due("as written: 19 + 15", x.pace(0, 0), 48);
    }

    private static void promise21() {
        DotWar x = new DotWar();
        due("no reader", x.learn(0, 0), UNKNOWN);
        x.reader(70, 0, true);
        x.reader(71, 0, true);
        due("code 5", x.learn(0, 5), UNKNOWN);
        due("code -1", x.learn(0, -1), UNKNOWN);
        due("reader 2", x.learn(2, 0), UNKNOWN);
        due("nothing to learn", x.learn(0, 0), 0);
        for (int l = 0; l < 13; l++) {
            x.letter(0, l, l + 1);
        }
        due("13 at 71: 26 by 171", x.learn(1, 0), 44);
        x.letter(0, 25, 63);
        due("14 at 71", x.learn(1, 0), NONE);
        due("14 at 70: 28 by 170", x.learn(0, 0), 47);
        shortOf(x, 0, "ab", 1);
        shortOf(x, 0, "ab", 1);
        due("two shorts: 34 by 170", x.learn(0, 0), 57);
        x.know(1, 1, 3);
        x.letter(1, 0, 1);
        x.letter(1, 1, 9);
        x.letter(1, 13, 9);
        due("one is alike: 26 and 6 by 171", x.learn(1, 0), 54);
        x.know(1, 0, 1);
        due("known", x.learn(1, 0), 0);
        due("her own", x.learn(1, 1), 0);
        x.know(1, 2, 9);
        x.know(1, 0, 0);
        due("own code has no cells: 14", x.learn(1, 0), NONE);
        x.know(1, 0, 1);
        due("known, though too many", x.learn(1, 0), 0);
    }

    private static void promise22() {
        DotWar x = new DotWar();
        due("shelf", x.shelf(5, 7, 4, 100), 0);
        due("was", x.shelf(5, 7, 4, 0), 100);
        due("was 0", x.shelf(5, 7, 4, 3), 0);
        due("school 6", x.shelf(6, 0, 0, 1), UNKNOWN);
        due("school -1", x.shelf(-1, 0, 0, 1), UNKNOWN);
        due("book 8", x.shelf(0, 8, 0, 1), UNKNOWN);
        due("book -1", x.shelf(0, -1, 0, 1), UNKNOWN);
        due("code 5", x.shelf(0, 0, 5, 1), UNKNOWN);
        due("code -1", x.shelf(0, 0, -1, 101), UNKNOWN);
        due("n 101", x.shelf(5, 7, 4, 101), OUTSIDE);
        due("n -1", x.shelf(5, 7, 4, -1), OUTSIDE);
        due("refused changes nothing", x.shelf(5, 7, 4, 3), 3);
        due("copies", x.told(6), 3);
    }

    private static void promise23() {
        DotWar x = new DotWar();
        due("no reader", x.reads(0), UNKNOWN);
        due("reader -1", x.reads(-1), UNKNOWN);
        x.reader(30, 1, true);
        x.shelf(1, 0, 0, 1);
        x.shelf(1, 7, 4, 1);
        x.shelf(1, 7, 0, 1);
        x.shelf(2, 3, 4, 1);
        due("knows none", x.reads(0), 0);
        x.know(0, 4, 1);
        due("one", x.reads(0), 128);
        x.know(0, 0, 1);
        due("two", x.reads(0), 129);
        x.shelf(1, 0, 0, 0);
        due("the copy is gone", x.reads(0), 128);
        x.move(0, 2);
        due("another school", x.reads(0), 8);
    }

    private static void promise24() {
        DotWar x = new DotWar();
        due("school 6", x.school(6, 0), UNKNOWN);
        due("school -1", x.school(-1, 9), UNKNOWN);
        due("what 4", x.school(0, 4), OUTSIDE);
        due("what -1", x.school(0, -1), OUTSIDE);
        x.shelf(3, 0, 0, 10);
        x.shelf(3, 1, 1, 20);
        x.shelf(3, 1, 2, 30);
        x.shelf(4, 5, 3, 1);
        due("no reader: none without", x.school(3, 0), 0);
        due("no reader: all is waste", x.school(3, 1), 60);
        due("no reader", x.school(3, 2), 0);
        due("no reader: no book is read", x.school(3, 3), 3);
        x.reader(30, 3, true);
        x.reader(30, 3, true);
        x.reader(30, 4, true);
        x.know(0, 2, 1);
        x.know(2, 0, 1);
        due("one without", x.school(3, 0), 1);
        due("waste", x.school(3, 1), 30);
        due("two readers", x.school(3, 2), 2);
        due("book 0 is not read", x.school(3, 3), 1);
        due("other school's reader is without", x.school(4, 0), 1);
        due("other school's waste", x.school(4, 1), 1);
        due("other school's book", x.school(4, 3), 32);
    }

    private static void promise25() {
        DotWar x = new DotWar();
        due("coin -1", x.fund(-1, 0), OUTSIDE);
        due("coin 1001", x.fund(1001, 0), OUTSIDE);
        due("what 4", x.fund(0, 4), OUTSIDE);
        due("what -1", x.fund(0, -1), OUTSIDE);
        due("no gain", x.fund(1000, 0), 0);
        due("no code", x.fund(1000, 1), NONE);
        due("no books", x.fund(1000, 2), 0);
        due("no coin", x.fund(1000, 3), 0);
        wordOf(x, "a");
        wordOf(x, "b");
        x.letter(1, 0, 1);
        for (int book = 0; book < 8; book++) {
            x.count(book, 0, 100 * (book + 1));
        }
        x.count(7, 1, 1);
        x.reader(30, 0, true);
        x.reader(30, 1, true);
        x.know(0, 1, 1);
        due("pages 1 1 2 2 3 3 4: coin 1", x.fund(1, 0), 1);
        due("coin 1, code", x.fund(1, 1), 1);
        due("coin 1, the least as bits", x.fund(1, 2), 1);
        due("coin 1, takes", x.fund(1, 3), 1);
        due("coin 0", x.fund(0, 0), 0);
        due("coin 5: the cheapest three", x.fund(5, 2), 7);
        due("coin 5, takes", x.fund(5, 3), 4);
        due("all that can be", x.fund(1000, 2), 127);
        due("all, takes", x.fund(1000, 3), 16);
        x.shelf(0, 0, 1, 1);
        due("one she has", x.fund(1000, 2), 126);
        x.shelf(0, 0, 1, 0);
        x.shelf(1, 0, 1, 1);
        due("one that stands elsewhere", x.fund(1000, 2), 127);
        x.know(1, 1, 1);
        due("two readers", x.fund(1000, 0), 13);
        due("a book of two is more", x.fund(1, 2), 2);
        x.know(1, 0, 1);
        x.know(0, 0, 1);
        x.letter(0, 0, 1);
        due("the first code", x.fund(1000, 1), 0);
        x.letter(4, 0, 1);
        x.letter(4, 1, 1);
        x.know(0, 4, 1);
        due("one more book for one", x.fund(1000, 0), 13);
        x.know(1, 4, 1);
        due("one more book for two", x.fund(1000, 0), 15);
        due("its code", x.fund(1000, 1), 4);
        due("its coin", x.fund(1000, 3), 21);
        DotWar y = new DotWar();
        y.reader(30, 5, false);
        y.know(0, 3, 1);
        due("empty books are free", y.fund(0, 0), 8);
        due("their code", y.fund(0, 1), 3);
        y.shelf(5, 2, 3, 1);
        due("a book without gain is left", y.fund(0, 2), 251);
        y.shelf(5, 2, 3, 0);
        y.shelf(5, 2, 4, 1);
        due("a copy she can not read", y.fund(0, 2), 255);
    }

    private static void promise26() {
        DotWar x = new DotWar();
        due("32", x.sign(32), OUTSIDE);
        due("127", x.sign(127), OUTSIDE);
        due("-1", x.sign(-1), OUTSIDE);
        for (int i = 1; i <= 40; i++) {
            due("sign", x.sign(i % 2 == 0 ? 33 : 126), i);
        }
        due("full", x.sign(33), FULL);
        due("outside before full", x.sign(32), OUTSIDE);
        due("signs", x.told(2), 40);
    }

    private static void promise27() {
        DotWar x = new DotWar();
        due("no signs", x.fault(), 0);
        for (String good : new String[] {"a>5", "y<55", "k=555", "s=1&a>0", "s=1|a>0", "a<1&y>2|k=3&s=0|a=999"}) {
            due(good, faultOf(x, good), NONE);
        }
        String[] open = {"a", "a>", "a>5&", "a>5|", "a>555|", "s=1&y", "s=1&y<"};
        for (String text : open) {
            due(text, faultOf(x, text), text.length());
        }
        due("b>5", faultOf(x, "b>5"), 0);
        due("A>5", faultOf(x, "A>5"), 0);
        due("5", faultOf(x, "5"), 0);
        due("&", faultOf(x, "&"), 0);
        due("aa", faultOf(x, "aa"), 1);
        due("a5", faultOf(x, "a5"), 1);
        due("a!5", faultOf(x, "a!5"), 1);
        due("a>>5", faultOf(x, "a>>5"), 2);
        due("a>=5", faultOf(x, "a>=5"), 2);
        due("a>b", faultOf(x, "a>b"), 2);
        due("a>&", faultOf(x, "a>&"), 2);
        due("a>5a", faultOf(x, "a>5a"), 3);
        due("a>5<", faultOf(x, "a>5<"), 3);
        due("a>5555", faultOf(x, "a>5555"), 5);
        due("a>555:", faultOf(x, "a>555:"), 5);
        due("a>5/", faultOf(x, "a>5/"), 3);
        due("a>5&&", faultOf(x, "a>5&&"), 4);
        due("a>5||a", faultOf(x, "a>5||a"), 4);
        due("a>5&x!!", faultOf(x, "a>5&x!!"), 4);
        String forty = "a>555&a>555&a>555&a>555&a>555&a>555&a>55";
        due("forty signs", faultOf(x, forty), NONE);
        due("forty, open", faultOf(x, forty.substring(0, 39) + "|"), 40);
        due("the signs stay", x.told(2), 40);
    }

    private static void promise28() {
        DotWar x = new DotWar();
        due("no signs", x.board(0), NO);
        due("school 6", x.board(6), UNKNOWN);
        due("school -1", x.board(-1), UNKNOWN);
        due("a fault", boardOf(x, 0, "a>5&"), NO);
        due("the signs stay", x.told(2), 4);
        due("a rule", boardOf(x, 0, "a>50"), 1);
        due("the signs are empty", x.told(2), 0);
        x.reader(30, 0, true);
        x.reader(60, 0, true);
        due("by the rule", x.voters(0), 2);
        due("it had one", boardOf(x, 0, "a<9"), 0);
        due("by the new rule, which is shorter", x.voters(0), 0);
        due("a fault keeps the rule", boardOf(x, 0, "x"), NO);
        due("again", boardOf(x, 0, "a=60"), 0);
        due("by the last", x.voters(0), 2);
        due("another school", boardOf(x, 5, "s=1"), 1);
    }

    private static void promise29() {
        DotWar x = new DotWar();
        due("school 6", x.voters(6), UNKNOWN);
        due("school -1", x.voters(-1), UNKNOWN);
        x.reader(20, 0, true);
        x.reader(30, 0, false);
        x.reader(40, 0, true);
        x.reader(40, 1, true);
        x.know(0, 1, 5);
        x.know(0, 2, 7);
        x.know(1, 3, 7);
        due("no rule", x.voters(0), 0);
        boardOf(x, 0, "a>20");
        due("a>20", x.voters(0), 6);
        boardOf(x, 0, "a<30");
        due("a<30", x.voters(0), 1);
        boardOf(x, 0, "a=030");
        due("a=030", x.voters(0), 2);
        boardOf(x, 0, "y=7");
        due("y=7", x.voters(0), 3);
        boardOf(x, 0, "y=0");
        due("y=0", x.voters(0), 4);
        boardOf(x, 0, "k=2");
        due("k=2", x.voters(0), 1);
        boardOf(x, 0, "k<2&s=1");
        due("k<2&s=1", x.voters(0), 4);
        boardOf(x, 0, "s=0");
        due("s=0", x.voters(0), 2);
        boardOf(x, 0, "s=0|a>30");
        due("s=0|a>30", x.voters(0), 6);
        boardOf(x, 0, "a>30&s=0|k=2|a=999&a<999");
        due("clauses", x.voters(0), 1);
        boardOf(x, 0, "a>30|s=0&a<30");
        due("tests of a later clause", x.voters(0), 4);
        boardOf(x, 0, "a<999");
        due("all here", x.voters(0), 7);
        x.move(3, 0);
        due("she came", x.voters(0), 15);
        due("another school has no rule", x.voters(1), 0);
        boardOf(x, 0, "a<12");
        due("a number of more digits before", x.voters(0), 0);
        DotWar y = new DotWar();
        for (int i = 0; i < 20; i++) {
            y.reader(50, 2, true);
        }
        boardOf(y, 2, "s=1");
        due("twenty", y.voters(2), (1 << 20) - 1);
    }

    private static void promise30() {
        DotWar x = new DotWar();
        due("school 6", x.choice(6, true), UNKNOWN);
        due("school -1", x.choice(-1, false), UNKNOWN);
        due("no readers", x.choice(0, true), NONE);
        for (int i = 0; i < 5; i++) {
            x.reader(20 + 10 * i, 0, true);
        }
        due("for none", x.choice(0, true), NONE);
        x.know(0, 3, 1);
        due("one", x.choice(0, true), 3);
        due("no rule", x.choice(0, false), NONE);
        x.know(1, 2, 1);
        due("the first such", x.choice(0, true), 2);
        x.know(2, 3, 1);
        due("most", x.choice(0, true), 3);
        boardOf(x, 0, "a=30");
        due("voters alone", x.choice(0, false), 2);
        due("all the same", x.choice(0, true), 3);
        boardOf(x, 0, "a=50");
        due("a voter for none", x.choice(0, false), NONE);
        x.know(2, 4, 9);
        due("her own code is another", x.choice(0, true), 2);
        x.move(1, 1);
        due("she went", x.choice(0, true), 3);
        due("she is there", x.choice(1, true), 2);
    }

    private static void promise31() {
        DotWar x = new DotWar();
        due("part", x.part(25, 6), NONE);
        due("was", x.part(25, 0), 6);
        due("was 0", x.part(25, -1), 0);
        due("was none", x.part(25, 3), NONE);
        due("letter 26", x.part(26, 0), UNKNOWN);
        due("letter -1", x.part(-1, 9), UNKNOWN);
        due("part 7", x.part(25, 7), OUTSIDE);
        due("part -2", x.part(25, -2), OUTSIDE);
        due("refused changes nothing", x.part(25, 3), 3);
    }

    private static void promise32() {
        DotWar x = new DotWar();
        due("no parts", x.mix(0), 1);
        due("no parts, any codes", x.mix(4444444), 1);
        for (int digits : new int[] {-1, 5, 50, 500, 5000, 50000, 500000, 5000000, 4444445, 10000000, 9999999, MIN, MAX}) {
            due("digits " + digits, x.mix(digits), OUTSIDE);
        }
        alphabet(x, 0, 1, 2, 1);
        alphabet(x, 4, 2, 1, 3);
        x.part(0, 0);
        due("one", x.mix(0), 1);
        due("no cell", x.mix(1000000), 0);
        due("the first digit is of part 0", x.mix(4123123), 1);
        x.part(1, 6);
        due("two", x.mix(0), 1);
        due("the last digit is of part 6", x.mix(4), 0);
        due("both of 4", x.mix(4000004), 1);
        x.part(2, 0);
        due("alike within a part", x.mix(0), 0);
        due("not alike there", x.mix(4000004), 1);
        x.letter(4, 2, 63);
        x.letter(0, 1, 63);
        due("alike, cell 63", x.mix(4000000), 0);
    }

    private static void promise33() {
        DotWar x = new DotWar();
        due("no parts", x.anew(0), 0);
        due("digits -1", x.anew(-1), OUTSIDE);
        due("digits 5", x.anew(5), OUTSIDE);
        due("digits 10000000", x.anew(10000000), OUTSIDE);
        alphabet(x, 0, 1, 2, 3);
        alphabet(x, 1, 1, 3, 2);
        x.part(0, 0);
        x.part(1, 1);
        due("no readers", x.anew(0), 0);
        due("may not be", x.anew(2000000), NO);
        due("may not be, part 1", x.anew(200000), NO);
        x.reader(30, 0, true);
        due("no own code", x.anew(0), 0);
        x.know(0, 1, 1);
        due("one anew", x.anew(0), 1);
        due("none anew", x.anew(1100000), 0);
        due("mixed", x.anew(100000), 0);
        x.reader(30, 1, true);
        x.know(1, 3, 1);
        due("none in her own", x.anew(0), 3);
        x.know(1, 0, 2);
        due("another own", x.anew(0), 1);
        x.part(2, 1);
        due("a letter more", x.anew(0), 2);
        due("and for the other", x.anew(1100000), 2);
        x.part(1, -1);
        due("a letter less", x.anew(0), 1);
    }

    private static void promise34() {
        DotWar x = new DotWar();
        due("no parts", x.best(), 0);
        x.part(0, 3);
        due("none may be", x.best(), NO);
        x.letter(4, 0, 9);
        due("just one", x.best(), 4000);
        x.letter(2, 0, 9);
        due("the first", x.best(), 2000);
        x.letter(2, 0, 8);
        x.reader(30, 0, true);
        x.know(0, 4, 1);
        due("less anew", x.best(), 4000);
        x.part(1, 0);
        x.letter(0, 1, 9);
        due("they would be alike", x.best(), 2000);
        x.letter(1, 1, 7);
        due("one anew instead of two", x.best(), 1004000);
        x.letter(4, 1, 7);
        due("equal: the first by codes", x.best(), 1004000);
        x.letter(1, 1, 6);
        due("her own, the other", x.best(), 4004000);
        x.letter(2, 0, 0);
        x.letter(4, 0, 0);
        due("none again", x.best(), NO);
        DotWar y = new DotWar();
        for (int code = 0; code < 5; code++) {
            for (int l = 0; l < 26; l++) {
                y.letter(code, l, 1 + (l * 5 + code) % 63);
                y.part(l, l % 7);
            }
        }
        for (int i = 0; i < 20; i++) {
            y.reader(30, 0, true);
            y.know(i, i % 2 + 3, 1);
        }
        due("mix of 3", y.mix(3333333), 1);
        due("anew of 3", y.anew(3333333), 260);
        due("best of 3 and 4", y.best(), 3333333);
        DotWar z = new DotWar();
        for (int l = 0; l < 7; l++) {
            z.part(l, l);
            for (int code = 0; code < 5; code++) {
                z.letter(code, l, l == 6 ? 1 : 1 + l);
            }
        }
        due("only the last is alike", z.best(), NO);
        z.letter(4, 6, 7);
        due("now not", z.best(), 4);
    }

    private static void promise35() {
        DotWar x = new DotWar();
        for (int what : new int[] {-1, 7, 8, 9, 15, 16, 19, 25, 26, MIN, MAX}) {
            due("told " + what, x.told(what), OUTSIDE);
        }
        wordOf(x, "ab");
        rowOf(x, "ab");
        rowOf(x, "cd");
        shortOf(x, 3, "ab", 1);
        alphabet(x, 2, 1, 2, 0, 4);
        for (int i = 0; i < 4; i++) {
            x.reader(30, 0, true);
        }
        x.shelf(0, 0, 0, 100);
        x.shelf(5, 7, 4, 11);
        pad(x, "abcde");
        cells(x, 1, 2, 3, 4, 5, 6);
        signs(x, "a>12&k=");
        due("letters", x.told(0), 5);
        due("cells", x.told(1), 6);
        due("signs", x.told(2), 7);
        due("words", x.told(3), 1);
        due("rows", x.told(4), 2);
        due("readers", x.told(5), 4);
        due("copies", x.told(6), 111);
        due("shorts of 3", x.told(13), 1);
        due("shorts of 2", x.told(12), 0);
        due("letters of 2", x.told(22), 3);
        due("letters of 3", x.told(23), 0);
    }
}
