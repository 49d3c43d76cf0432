/** Promises 26 to 30: their sentences, those that name boundary cases before all, each by a test of its own. */
public final class EdgesOfBoardsTest extends Edges {
    private EdgesOfBoardsTest() {
    }

    public static void main(String[] args) throws Exception {
        run(EdgesOfBoardsTest.class, args);
    }

    /** Each sign that may stand is put behind a text: which of them the text goes on with. */
    private static void dueNext(String text, String allowed, boolean whole) {
        for (char sign = 33; sign <= 126; sign++) {
            DotWar x = new DotWar();
            int fault = faultOf(x, text + sign);
            if (allowed.indexOf(sign) < 0) {
                due(text + sign, fault, text.length());
            } else {
                due(text + sign, fault, whole && Character.isDigit(sign) ? NONE : text.length() + 1);
            }
        }
    }

    /** Whether a reader of 40 years, sighted, with 7 and 3 years of two codes, may vote by a rule: 1, 0. */
    private static int may(String rule) {
        DotWar x = new DotWar();
        x.reader(40, 5, true);
        x.know(0, 1, 3);
        x.know(0, 4, 7);
        due("rule " + rule, boardOf(x, 5, rule), 1);
        return x.voters(5);
    }

    // ---- 26 sign

    @Sentence(of = 26, says = "texts of up to 40 signs (codes 33 to 126)")
    static void sign33To126() {
        taken("sign", 33, 126, NEW, (x, sign) -> x.sign(sign), 1);
        refusedBeyond("sign", 33, 126, ORDINARY, (x, sign) -> x.sign(sign), OUTSIDE);
        refusedBeyond("the first sign", 33, 126, NEW, (x, sign) -> x.sign(sign), OUTSIDE);
        refused("0", ORDINARY, x -> x.sign(0), OUTSIDE);
        refused("a blank", ORDINARY, x -> x.sign(' '), OUTSIDE);
    }

    @Sentence(of = 26, says = "texts of up to 40 signs (codes 33 to 126)")
    static void signFortyAtMost() {
        DotWar x = new DotWar();
        for (int i = 1; i <= 40; i++) {
            due("sign " + i, x.sign('a'), i);
        }
        due("the forty-first", x.sign('a'), FULL);
        x.wipe(2);
        due("the first again", x.sign('a'), 1);
        refused("full", FILLED, y -> y.sign('0'), FULL);
    }

    @Sentence(of = 26, says = "Calls that are refused answer, the first of these that fits")
    static void signOutsideBeforeFull() {
        refused("32", FILLED, x -> x.sign(32), OUTSIDE);
        refused("127", FILLED, x -> x.sign(127), OUTSIDE);
    }

    @Sentence(of = 26, says = "A sign more: how many.")
    static void signPutsBehindTheLast() {
        String[] rules = {"a=12", "a=21", "a<20|s=1", "s=1|a<02"};
        int[] due = {1, 2, 7, 6};
        DotWar x = new DotWar();
        x.reader(12, 0, false);
        x.reader(21, 0, true);
        x.reader(30, 0, true);
        for (int i = 0; i < rules.length; i++) {
            for (int j = 0; j < rules[i].length(); j++) {
                due("how many of " + rules[i], x.sign(rules[i].charAt(j)), j + 1);
                due("told", x.told(2), j + 1);
            }
            x.board(0);
            due("by " + rules[i], x.voters(0), due[i]);
        }
    }

    // ---- 27 fault

    @Sentence(of = 27, says = "the first place (from 0 on; behind the last sign: their number)")
    static void faultOfOpenTexts() {
        due("no signs", new DotWar().fault(), 0);
        for (String text : new String[] {"a", "y<", "k>1&", "s=1|", "a=999|", "a=1&y=2|k", "a=1|y=2&s>"}) {
            due(text, faultOf(new DotWar(), text), text.length());
        }
    }

    @Sentence(of = 27, says = "one or more CLAUSES with a | between two, a CLAUSE: one or more TESTS with a & between two")
    static void faultOfClausesAndTests() {
        for (String text : new String[] {"a>1", "a>1|a>1", "a>1&a>1", "a>1|a>1|a>1", "a>1&a>1&a>1", "a>1|a>1&a>1", "a>1&a>1|a>1"}) {
            due(text, faultOf(new DotWar(), text), NONE);
        }
        due("|a>1", faultOf(new DotWar(), "|a>1"), 0);
        due("&a>1", faultOf(new DotWar(), "&a>1"), 0);
        due("a>1||a>1", faultOf(new DotWar(), "a>1||a>1"), 4);
        due("a>1&&a>1", faultOf(new DotWar(), "a>1&&a>1"), 4);
        due("a>1|&a>1", faultOf(new DotWar(), "a>1|&a>1"), 4);
        due("a>1&|a>1", faultOf(new DotWar(), "a>1&|a>1"), 4);
        due("a>1a>1", faultOf(new DotWar(), "a>1a>1"), 3);
    }

    @Sentence(of = 27, says = "a TEST: a (AGE), y (YEARS of her OWN CODE, 0 without one), k (how many CODES she knows), s (1: sighted, 0)")
    static void faultOfWhatIsTested() {
        dueNext("", "ayks", false);
        dueNext("a>1&", "ayks", false);
        dueNext("a>123|", "ayks", false);
    }

    @Sentence(of = 27, says = "then <, > or =")
    static void faultOfComparisons() {
        for (String subject : new String[] {"a", "y", "k", "s", "s=0&a", "s=0|k"}) {
            dueNext(subject, "<>=", false);
        }
    }

    @Sentence(of = 27, says = "and a number of 1 to 3 digits")
    static void faultOfDigits() {
        for (String begin : new String[] {"a<", "y>", "k=", "k=1|s="}) {
            dueNext(begin, "0123456789", true);
            dueNext(begin + "0", "0123456789&|", true);
            dueNext(begin + "09", "0123456789&|", true);
            dueNext(begin + "999", "&|", true);
            due("no digit", faultOf(new DotWar(), begin + "&"), begin.length());
            due("one digit", faultOf(new DotWar(), begin + "0"), NONE);
            due("three digits", faultOf(new DotWar(), begin + "999"), NONE);
            due("four digits", faultOf(new DotWar(), begin + "0000"), begin.length() + 3);
        }
    }

    @Sentence(of = 27, says = "at which no sign could make a text go on as it stands")
    static void faultTheFirst() {
        due("two faults", faultOf(new DotWar(), "a>1!y?2"), 3);
        due("a fault before an open end", faultOf(new DotWar(), "a>1&x"), 4);
        due("a fault at the last sign", faultOf(new DotWar(), "a>1&k=1b"), 7);
        due("behind it all would be right", faultOf(new DotWar(), "xa>1"), 0);
    }

    @Sentence(of = 27, says = "texts of up to 40 signs (codes 33 to 126)")
    static void faultOfFortySigns() {
        due("a whole text", faultOf(new DotWar(), FORTY), NONE);
        String open = FORTY.substring(0, 39);
        due("39 signs, open", faultOf(new DotWar(), open), 39);
        due("40 signs, a fault at the last", faultOf(new DotWar(), open + "="), 39);
        due("40 signs, open", faultOf(new DotWar(), FORTY.substring(0, 36) + "23&y"), 40);
        DotWar x = made(FILLED);
        due("the signs are asked", x.fault(), NONE);
        due("they stay", x.told(2), 40);
    }

    @Sentence(of = 27, says = "THE FAULT: the first place (from 0 on; behind the last sign: their number) "
            + "at which no sign could make a text go on as it stands.")
    static void faultOfEveryBeginning() {
        String[] texts = {FORTY, "a>1", "y<22|k=333&s=0", "s=1&s=1&s=1|a>999|a>99|a>9"};
        for (String text : texts) {
            for (int size = 0; size <= text.length(); size++) {
                boolean whole = size > 0 && Character.isDigit(text.charAt(size - 1));
                due(text.substring(0, size), faultOf(new DotWar(), text.substring(0, size)), whole ? NONE : size);
            }
            for (int place = 0; place < text.length(); place++) {
                for (char wrong : new char[] {'!', '~', 'A', 'b', 'x', '/', ':', ';', '?', '%', '(', '-'}) {
                    String other = text.substring(0, place) + wrong + text.substring(place + 1);
                    due(other, faultOf(new DotWar(), other), place);
                }
            }
        }
    }

    @Sentence(of = 27, says = "THE FAULT of the signs that are there; NONE.")
    static void faultSignBySign() {
        DotWar x = new DotWar();
        String text = "a>1&k=22|s=333";
        int[] due = {0, 1, 2, NONE, 4, 5, 6, NONE, NONE, 9, 10, 11, NONE, NONE, NONE};
        for (int i = 0; i < text.length(); i++) {
            due("before " + i, x.fault(), due[i]);
            x.sign(text.charAt(i));
        }
        due("all", x.fault(), NONE);
        x.sign('4');
        due("a fourth digit", x.fault(), 14);
        x.sign('|');
        due("it stays", x.fault(), 14);
        due("the signs stay", x.told(2), 16);
        x.wipe(2);
        due("none are there", x.fault(), 0);
        signs(x, "a>1");
        x.board(0);
        due("none are there when a school has them", x.fault(), 0);
    }

    // ---- 28 board

    @Sentence(of = 28, says = "(they are empty then): 1 (0: it had one). UNKNOWN; NO: there is a FAULT.")
    static void boardOfSchools0To5() {
        Setup rule = x -> signs(x, "a>1");
        taken("school", 0, 5, rule, (x, school) -> x.board(school), 1);
        refusedBeyond("school", 0, 5, ORDINARY, (x, school) -> x.board(school), UNKNOWN);
    }

    @Sentence(of = 28, says = "A SCHOOL has a RULE or none (at first)")
    static void boardHadOne() {
        DotWar x = new DotWar();
        for (int school = 0; school < 6; school++) {
            due("none at first", boardOf(x, school, "a>1"), 1);
            due("it had one", boardOf(x, school, "k=1"), 0);
            due("and had one", boardOf(x, school, "k=1"), 0);
        }
    }

    @Sentence(of = 28, says = "A SCHOOL has the signs as its RULE (they are empty then): 1 (0: it had one).")
    static void boardTakesTheSigns() {
        DotWar x = made(ORDINARY);
        due("a rule before", x.voters(0), 5);
        due("it had one", x.board(0), 0);
        due("no signs", x.told(2), 0);
        due("letters stay", x.told(0), 4);
        due("cells stay", x.told(1), 3);
        due("by the new rule", x.voters(0), 4);
        due("another school keeps its own", x.voters(1), 2);
        due("no signs are no rule", x.board(0), NO);
        due("the rule stays", x.voters(0), 4);
    }

    @Sentence(of = 28, says = "texts of up to 40 signs (codes 33 to 126)")
    static void boardOfFortySigns() {
        DotWar x = made(FILLED);
        due("forty signs", x.board(0), 1);
        due("by all of them: all there but her who is 20 and knows a code", x.voters(0), 1 << 6 | 1 << 12 | 1 << 18);
        due("then three", boardOf(x, 0, "k=1"), 0);
        due("nothing is left of the forty", x.voters(0), 1);
        DotWar y = new DotWar();
        y.reader(30, 0, true);
        due("the last sign counts", boardOf(y, 0, "a=1|a=1|a=1|a=1|a=1|a=1|a=1|a=1|a=1|a=30"), 1);
        due("by the last sign", y.voters(0), 1);
    }

    @Sentence(of = 28, says = "NO: there is a FAULT.")
    static void boardOfAFault() {
        refused("no signs", then(ORDINARY, x -> x.wipe(2)), x -> x.board(0), NO);
        refused("no signs, no rule", NEW, x -> x.board(0), NO);
        refused("open", then(ORDINARY, x -> x.sign('&')), x -> x.board(0), NO);
        refused("wrong at the first", then(ORDINARY, x -> signs(x, "x")), x -> x.board(1), NO);
        refused("wrong at the last of forty", then(ORDINARY, x -> signs(x, FORTY.substring(0, 39) + "=")), x -> x.board(2), NO);
        refused("four digits", then(ORDINARY, x -> signs(x, "a<1000")), x -> x.board(5), NO);
    }

    @Sentence(of = 28, says = "Calls that are refused answer, the first of these that fits")
    static void boardUnknownBeforeNo() {
        refused("a school that is not, and no signs", then(ORDINARY, x -> x.wipe(2)), x -> x.board(6), UNKNOWN);
        refused("a school that is not, and a fault", then(ORDINARY, x -> x.sign('&')), x -> x.board(-1), UNKNOWN);
    }

    @Sentence(of = 28, says = "RULES of boards are texts of up to 40 signs (codes 33 to 126): one or more CLAUSES with a | between two, "
            + "a CLAUSE: one or more TESTS with a & between two, a TEST: a (AGE), y (YEARS of her OWN CODE, 0 without one), "
            + "k (how many CODES she knows), s (1: sighted, 0), then <, > or =, and a number of 1 to 3 digits.")
    static void boardOfAllThatMayBe() {
        for (String subject : new String[] {"a", "y", "k", "s"}) {
            for (String comparison : new String[] {"<", ">", "="}) {
                for (String number : new String[] {"0", "9", "00", "10", "99", "000", "999"}) {
                    String test = subject + comparison + number;
                    for (String rule : new String[] {test, test + "&" + test, test + "|" + test, test + "&a>1|" + test + "|s=0&" + test}) {
                        due(rule, boardOf(new DotWar(), 3, rule), 1);
                        due(rule + "&", boardOf(new DotWar(), 3, rule + "&"), NO);
                        due("|" + rule, boardOf(new DotWar(), 3, "|" + rule), NO);
                    }
                }
                due(subject + comparison, boardOf(new DotWar(), 3, subject + comparison), NO);
                due("turned about", boardOf(new DotWar(), 3, "1" + comparison + subject), NO);
            }
        }
    }

    // ---- 29 voters

    @Sentence(of = 29, says = "READERS who may VOTE at a SCHOOL, as bits. UNKNOWN.")
    static void votersOfSchools0To5() {
        taken("school", 0, 5, NEW, (x, school) -> x.voters(school), 0);
        refusedBeyond("school", 0, 5, ORDINARY, (x, school) -> x.voters(school), UNKNOWN);
    }

    @Sentence(of = 29, says = "may VOTE; none without a RULE")
    static void votersWithoutARule() {
        DotWar x = new DotWar();
        for (int school = 0; school < 6; school++) {
            x.reader(30, school, true);
        }
        for (int school = 0; school < 6; school++) {
            due("none at " + school, x.voters(school), 0);
        }
        boardOf(x, 3, "a=30");
        for (int school = 0; school < 6; school++) {
            due("with one rule, at " + school, x.voters(school), school == 3 ? 8 : 0);
        }
    }

    @Sentence(of = 29, says = "READERS of that SCHOOL for whom some CLAUSE's TESTS are all so may VOTE")
    static void votersOfThatSchool() {
        DotWar x = new DotWar();
        for (int i = 0; i < 20; i++) {
            boardOf(x, 0, "a>0");
            due("before " + i, x.voters(0), (1 << i) - 1);
            x.reader(30, 0, true);
        }
        due("all twenty", x.voters(0), (1 << 20) - 1);
        x.move(0, 5);
        due("the first went", x.voters(0), (1 << 20) - 2);
        x.move(19, 5);
        due("the last went", x.voters(0), (1 << 19) - 2);
        due("where they are is no rule", x.voters(5), 0);
    }

    @Sentence(of = 29, says = "READERS of that SCHOOL for whom some CLAUSE's TESTS are all so may VOTE")
    static void votersBySomeClauseAndAllTests() {
        String yes = "a=40";
        String no = "a=41";
        for (int bits = 0; bits < 16; bits++) {
            boolean[] so = {(bits & 1) == 1, (bits & 2) == 2, (bits & 4) == 4, (bits & 8) == 8};
            String[] test = new String[4];
            for (int i = 0; i < 4; i++) {
                test[i] = so[i] ? yes : no;
            }
            due("one clause", may(String.join("&", test)), so[0] && so[1] && so[2] && so[3] ? 1 : 0);
            due("four clauses", may(String.join("|", test)), so[0] || so[1] || so[2] || so[3] ? 1 : 0);
            due("two of two", may(test[0] + "&" + test[1] + "|" + test[2] + "&" + test[3]), so[0] && so[1] || so[2] && so[3] ? 1 : 0);
            due("one of one, of two, of one", may(test[0] + "|" + test[1] + "&" + test[2] + "|" + test[3]),
                    so[0] || so[1] && so[2] || so[3] ? 1 : 0);
        }
    }

    @Sentence(of = 29, says = "a TEST: a (AGE)")
    static void votersByAge() {
        String[] so = {"a=40", "a=040", "a<41", "a>39", "a<999", "a>0", "a>00"};
        String[] not = {"a=39", "a=41", "a=4", "a=400", "a<40", "a>40", "a<0", "a>999"};
        for (String rule : so) {
            due(rule, may(rule), 1);
        }
        for (String rule : not) {
            due(rule, may(rule), 0);
        }
    }

    @Sentence(of = 29, says = "y (YEARS of her OWN CODE, 0 without one)")
    static void votersByYears() {
        due("y=7", may("y=7"), 1);
        due("y=3", may("y=3"), 0);
        due("y=10", may("y=10"), 0);
        due("y>6", may("y>6"), 1);
        due("y>7", may("y>7"), 0);
        due("y<8", may("y<8"), 1);
        due("y<7", may("y<7"), 0);
        DotWar x = new DotWar();
        x.reader(40, 0, true);
        boardOf(x, 0, "y=0");
        due("without one", x.voters(0), 1);
        x.know(0, 4, 1);
        due("with one year", x.voters(0), 0);
        boardOf(x, 0, "y<1");
        due("not below 1", x.voters(0), 0);
        x.know(0, 4, 50);
        boardOf(x, 0, "y=50");
        due("fifty", x.voters(0), 1);
        for (int code = 0; code < 5; code++) {
            DotWar y = new DotWar();
            y.reader(40, 0, true);
            y.know(0, (code + 2) % 5, 8);
            y.know(0, code, 9);
            boardOf(y, 0, "y=9");
            due("her own is " + code, y.voters(0), 1);
        }
    }

    @Sentence(of = 29, says = "k (how many CODES she knows)")
    static void votersByCodes() {
        DotWar x = new DotWar();
        x.reader(40, 0, true);
        for (int known = 0; known <= 5; known++) {
            if (known > 0) {
                x.know(0, known - 1, 1);
            }
            for (int k = 0; k <= 6; k++) {
                boardOf(x, 0, "k=" + k);
                due(known + ", k=" + k, x.voters(0), known == k ? 1 : 0);
            }
            boardOf(x, 0, "k<" + known);
            due(known + ", k<", x.voters(0), 0);
            boardOf(x, 0, "k>" + known);
            due(known + ", k>", x.voters(0), 0);
        }
    }

    @Sentence(of = 29, says = "s (1: sighted, 0)")
    static void votersBySight() {
        DotWar x = new DotWar();
        x.reader(40, 0, true);
        x.reader(40, 0, false);
        int[][] due = {{'=', 0, 2}, {'=', 1, 1}, {'=', 2, 0}, {'<', 0, 0}, {'<', 1, 2}, {'<', 2, 3}, {'>', 0, 1}, {'>', 1, 0}};
        for (int[] one : due) {
            String rule = "s" + (char) one[0] + one[1];
            boardOf(x, 0, rule);
            due(rule, x.voters(0), one[2]);
        }
    }

    // ---- 30 choice

    @Sentence(of = 30, says = "of all READERS there (true); NONE. UNKNOWN.")
    static void choiceOfSchools0To5() {
        taken("school", 0, 5, NEW, (x, school) -> x.choice(school, true), NONE);
        taken("school of voters", 0, 5, NEW, (x, school) -> x.choice(school, false), NONE);
        refusedBeyond("school", 0, 5, ORDINARY, (x, school) -> x.choice(school, true), UNKNOWN);
        refusedBeyond("school of voters", 0, 5, ORDINARY, (x, school) -> x.choice(school, false), UNKNOWN);
    }

    @Sentence(of = 30, says = "the CODE for which most are, the first such; none, if none is for any")
    static void choiceOfMost() {
        DotWar x = new DotWar();
        for (int i = 0; i < 4; i++) {
            x.reader(30, 0, true);
        }
        due("none is for any", x.choice(0, true), NONE);
        x.know(3, 4, 1);
        due("one of four", x.choice(0, true), 4);
        x.know(2, 3, 1);
        due("one and one: the first", x.choice(0, true), 3);
        x.know(1, 4, 1);
        due("two and one", x.choice(0, true), 4);
        x.know(0, 3, 50);
        due("two and two: the first", x.choice(0, true), 3);
        x.know(2, 0, 1);
        due("as many years of code 0: it is her own", x.choice(0, true), 4);
        x.know(2, 0, 0);
        due("no more", x.choice(0, true), 3);
        due("of those who may vote: none", x.choice(0, false), NONE);
        due("of those elsewhere: none", x.choice(1, true), NONE);
    }

    @Sentence(of = 30, says = "CHOICE of those who may VOTE (asked = false)")
    static void choiceOfVoters() {
        DotWar x = new DotWar();
        for (int i = 0; i < 4; i++) {
            x.reader(30 + i, 0, true);
        }
        x.know(0, 0, 1);
        x.know(1, 0, 1);
        x.know(2, 4, 1);
        due("without a rule", x.choice(0, false), NONE);
        boardOf(x, 0, "a>31");
        due("one voter for it", x.choice(0, false), 4);
        due("of all", x.choice(0, true), 0);
        boardOf(x, 0, "a=33");
        due("one voter for none", x.choice(0, false), NONE);
        boardOf(x, 0, "a=99");
        due("no voter", x.choice(0, false), NONE);
        boardOf(x, 0, "k=1");
        due("three voters", x.choice(0, false), 0);
        x.move(0, 1);
        due("one each: the first", x.choice(0, false), 0);
        x.move(1, 1);
        due("they went", x.choice(0, false), 4);
        due("where they are is no rule", x.choice(1, false), NONE);
        due("but readers", x.choice(1, true), 0);
    }

    @Sentence(of = 30, says = "Each is for her OWN CODE; CHOICE of some READERS: the CODE for which most are")
    static void choiceByOwnCodes() {
        DotWar x = new DotWar();
        for (int r = 0; r < 5; r++) {
            x.reader(30 + r, 2, true);
            for (int code = 0; code < 5; code++) {
                x.know(r, code, 10);
            }
        }
        due("all know all: the first is each one's own", x.choice(2, true), 0);
        for (int r = 0; r < 5; r++) {
            x.know(r, r, 11);
        }
        due("one for each", x.choice(2, true), 0);
        x.know(0, 3, 50);
        due("two for code 3, whatever else they know", x.choice(2, true), 3);
        x.know(1, 3, 50);
        due("years do not count, but readers", x.choice(2, true), 3);
        boardOf(x, 2, "a<31|a=34");
        due("of those two the first", x.choice(2, false), 3);
        boardOf(x, 2, "y=11");
        due("of 2, 3 and 4 one each", x.choice(2, false), 2);
        for (int code = 0; code < 5; code++) {
            x.know(2, code, 0);
        }
        due("one of them is for none", x.choice(2, false), 3);
    }

    @Sentence(of = 30, says = "READERS, 20 at most")
    static void choiceOfTwenty() {
        DotWar x = new DotWar();
        for (int i = 0; i < 20; i++) {
            x.reader(30, 0, true);
            x.know(i, i < 10 ? 4 : 1, 1);
        }
        boardOf(x, 0, "s=1");
        due("ten and ten", x.choice(0, true), 1);
        x.know(19, 4, 2);
        due("eleven and nine", x.choice(0, true), 4);
        due("of voters", x.choice(0, false), 4);
    }
}
