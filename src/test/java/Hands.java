/** What the tests have in common: pads filled by texts, whole rows of cells and letters that are due. */
abstract class Hands {
    static final int UNKNOWN = -1, OUTSIDE = -2, STATE = -3, FULL = -4, NO = -5, NONE = -6;
    static final int MIN = Integer.MIN_VALUE, MAX = Integer.MAX_VALUE;

    static void due(String call, int got, int want) {
        Due.due(call, got, want);
    }

    /** LETTERS on an empty PAD, a for 0 and so on. */
    static void pad(DotWar x, String letters) {
        x.wipe(0);
        for (int i = 0; i < letters.length(); i++) {
            x.say(letters.charAt(i) - 'a');
        }
    }

    static void cells(DotWar x, int... row) {
        x.wipe(1);
        for (int cell : row) {
            x.dot(cell);
        }
    }

    static int shortOf(DotWar x, int code, String letters, int... row) {
        pad(x, letters);
        cells(x, row);
        return x.abbreviate(code);
    }

    static int wordOf(DotWar x, String letters) {
        pad(x, letters);
        return x.word();
    }

    static int rowOf(DotWar x, String letters) {
        pad(x, letters);
        return x.row();
    }

    static void signs(DotWar x, String text) {
        x.wipe(2);
        for (int i = 0; i < text.length(); i++) {
            x.sign(text.charAt(i));
        }
    }

    static int boardOf(DotWar x, int school, String text) {
        signs(x, text);
        return x.board(school);
    }

    static int faultOf(DotWar x, String text) {
        signs(x, text);
        return x.fault();
    }

    /** LETTERS from a on get CELLS. */
    static void alphabet(DotWar x, int code, int... row) {
        for (int l = 0; l < row.length; l++) {
            x.letter(code, l, row[l]);
        }
    }

    static void dueRow(String call, DotWar x, int code, int... row) {
        due(call + ", write -1", x.write(code, -1), row.length);
        int points = 0;
        for (int i = 0; i < row.length; i++) {
            due(call + ", write " + i, x.write(code, i), row[i]);
            points += Integer.bitCount(row[i]);
        }
        due(call + ", write -2", x.write(code, -2), points);
        due(call + ", write behind", x.write(code, row.length), NONE);
    }

    static void dueFirst(String call, DotWar x, int code, int ways, String letters) {
        due(call + ", read -1", x.read(code, -1), ways);
        due(call + ", read -2", x.read(code, -2), letters.length());
        for (int i = 0; i < letters.length(); i++) {
            due(call + ", read " + i, x.read(code, i), letters.charAt(i) - 'a');
        }
        due(call + ", read behind", x.read(code, letters.length()), NONE);
    }

    static void dueTwice(String call, DotWar x, int code, int... row) {
        due(call + ", ways -1", x.ways(code, -1), row.length);
        for (int i = 0; i < row.length; i++) {
            due(call + ", ways " + i, x.ways(code, i), row[i]);
        }
        due(call + ", ways behind", x.ways(code, row.length), NONE);
        due(call + ", ways -2", x.ways(code, -2), NONE);
    }
}
