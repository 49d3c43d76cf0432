import java.math.BigInteger;
import java.util.ArrayList;
import java.util.Arrays;
import java.util.HashSet;
import java.util.List;
import java.util.Set;
import java.util.regex.Pattern;

/** The document once more, answered by trying everything out, however long it takes. */
final class Model {
    static final int UNKNOWN = -1, OUTSIDE = -2, STATE = -3, FULL = -4, NO = -5, NONE = -6;
    /** Rows of cells are tried for TWO WAYS up to this length; longer answers are not judged. */
    static final int WAYS_TRIED = 6;
    static final int NOT_JUDGED = -99;

    record Item(List<Integer> letters, List<Integer> cells) {
        int points() {
            return cells.stream().mapToInt(Integer::bitCount).sum();
        }
    }

    static final class Person {
        int age;
        int school;
        boolean sighted;
        int[] years = new int[5];

        boolean knows(int code) {
            return years[code] > 0;
        }

        int own() {
            int most = Arrays.stream(years).max().getAsInt();
            for (int c = 0; c < 5; c++) {
                if (most > 0 && years[c] == most) {
                    return c;
                }
            }
            return NONE;
        }
    }

    final int[][] cellOf = new int[5][26];
    final List<List<Item>> shorts = new ArrayList<>();
    List<Integer> letters = new ArrayList<>();
    List<Integer> cells = new ArrayList<>();
    String signs = "";
    final List<List<Integer>> words = new ArrayList<>();
    final int[][] counts = new int[8][30];
    final List<List<Integer>> rows = new ArrayList<>();
    final List<Person> people = new ArrayList<>();
    final int[][][] copies = new int[6][8][5];
    final String[] rules = new String[6];
    final int[] parts = new int[26];

    Model() {
        for (int c = 0; c < 5; c++) {
            shorts.add(new ArrayList<>());
        }
        Arrays.fill(parts, NONE);
    }

    static boolean in(int x, int from, int to) {
        return from <= x && x <= to;
    }

    // ---- 1 codes

    int letter(int code, int l, int cell) {
        if (!in(code, 0, 4) || !in(l, 0, 25)) {
            return UNKNOWN;
        }
        if (!in(cell, 0, 63)) {
            return OUTSIDE;
        }
        int was = cellOf[code][l];
        cellOf[code][l] = cell;
        return was;
    }

    int say(int l) {
        if (!in(l, 0, 25)) {
            return UNKNOWN;
        }
        if (letters.size() == 10) {
            return FULL;
        }
        letters.add(l);
        return letters.size();
    }

    int dot(int cell) {
        if (!in(cell, 1, 63)) {
            return OUTSIDE;
        }
        if (cells.size() == 12) {
            return FULL;
        }
        cells.add(cell);
        return cells.size();
    }

    int wipe(int which) {
        int had;
        switch (which) {
            case 0:
                had = letters.size();
                letters = new ArrayList<>();
                return had;
            case 1:
                had = cells.size();
                cells = new ArrayList<>();
                return had;
            case 2:
                had = signs.length();
                signs = "";
                return had;
            default:
                return OUTSIDE;
        }
    }

    int abbreviate(int code) {
        if (!in(code, 0, 4)) {
            return UNKNOWN;
        }
        if (shorts.get(code).size() == 12) {
            return FULL;
        }
        if (!in(letters.size(), 2, 4) || !in(cells.size(), 1, 2)) {
            return NO;
        }
        shorts.get(code).add(new Item(letters, cells));
        letters = new ArrayList<>();
        cells = new ArrayList<>();
        return shorts.get(code).size() - 1;
    }

    List<Item> lettersOf(int code) {
        List<Item> items = new ArrayList<>();
        for (int l = 0; l < 26; l++) {
            if (cellOf[code][l] != 0) {
                items.add(new Item(List.of(l), List.of(cellOf[code][l])));
            }
        }
        return items;
    }

    List<Item> items(int code) {
        List<Item> items = new ArrayList<>(shorts.get(code));
        items.addAll(lettersOf(code));
        return items;
    }

    static boolean begins(List<Integer> row, int from, List<Integer> piece) {
        return from + piece.size() <= row.size() && row.subList(from, from + piece.size()).equals(piece);
    }

    /** All rows of items, in their order, that stand for some letters; the first best is kept. */
    static List<Item> written(List<Item> items, List<Integer> text) {
        List<List<Item>> found = new ArrayList<>();
        tryRows(items, text, 0, new ArrayList<>(), found);
        List<Item> best = null;
        for (List<Item> row : found) {
            if (best == null || size(row) < size(best) || size(row) == size(best) && points(row) < points(best)) {
                best = row;
            }
        }
        return best;
    }

    private static void tryRows(List<Item> items, List<Integer> text, int from, List<Item> row, List<List<Item>> found) {
        if (from == text.size()) {
            found.add(new ArrayList<>(row));
            return;
        }
        for (Item item : items) {
            if (begins(text, from, item.letters())) {
                row.add(item);
                tryRows(items, text, from + item.letters().size(), row, found);
                row.remove(row.size() - 1);
            }
        }
    }

    static int size(List<Item> row) {
        return row.stream().mapToInt(item -> item.cells().size()).sum();
    }

    static int points(List<Item> row) {
        return row.stream().mapToInt(Item::points).sum();
    }

    int write(int code, int i) {
        if (!in(code, 0, 4)) {
            return UNKNOWN;
        }
        List<Item> row = written(items(code), letters);
        if (row == null) {
            return NO;
        }
        if (i == -1) {
            return size(row);
        }
        if (i == -2) {
            return points(row);
        }
        List<Integer> flat = new ArrayList<>();
        row.forEach(item -> flat.addAll(item.cells()));
        return in(i, 0, flat.size() - 1) ? flat.get(i) : NONE;
    }

    int read(int code, int i) {
        if (!in(code, 0, 4)) {
            return UNKNOWN;
        }
        List<Item> items = items(code);
        BigInteger[] until = new BigInteger[cells.size() + 3];
        Arrays.fill(until, BigInteger.ZERO);
        until[0] = BigInteger.ONE;
        for (int p = 0; p < cells.size(); p++) {
            for (Item item : items) {
                if (begins(cells, p, item.cells())) {
                    int q = p + item.cells().size();
                    until[q] = until[q].add(until[p]);
                }
            }
        }
        BigInteger all = until[cells.size()];
        if (i == -1) {
            return all.min(BigInteger.valueOf(1000000)).intValue();
        }
        List<Integer> first = all.signum() == 0 ? List.of() : firstFrom(items, 0);
        if (i == -2) {
            return first.size();
        }
        return in(i, 0, first.size() - 1) ? first.get(i) : NONE;
    }

    private List<Integer> firstFrom(List<Item> items, int p) {
        if (p == cells.size()) {
            return List.of();
        }
        for (Item item : items) {
            if (begins(cells, p, item.cells())) {
                List<Integer> rest = firstFrom(items, p + item.cells().size());
                if (rest != null) {
                    List<Integer> row = new ArrayList<>(item.letters());
                    row.addAll(rest);
                    return row;
                }
            }
        }
        return null;
    }

    int ways(int code, int i) {
        if (!in(code, 0, 4)) {
            return UNKNOWN;
        }
        List<Item> items = items(code);
        List<Integer> used = new ArrayList<>();
        for (Item item : items) {
            used.addAll(item.cells());
        }
        List<Integer> signs = used.stream().distinct().sorted().toList();
        for (int length = 1; length <= WAYS_TRIED; length++) {
            List<Integer> row = firstTwice(items, signs, new ArrayList<>(), length, 0, 1);
            if (row != null) {
                if (i == -1) {
                    return length;
                }
                return in(i, 0, length - 1) ? row.get(i) : NONE;
            }
        }
        return NOT_JUDGED;
    }

    /** Goes through rows of cells in order, with in how many ways all but the last, and all, of them are read. */
    private static List<Integer> firstTwice(List<Item> items, List<Integer> signs, List<Integer> row, int left,
            long before, long now) {
        if (left == 0) {
            return now > 1 ? new ArrayList<>(row) : null;
        }
        for (int sign : signs) {
            row.add(sign);
            long next = 0;
            for (Item item : items) {
                int from = row.size() - item.cells().size();
                if (from >= 0 && begins(row, from, item.cells())) {
                    next += item.cells().size() == 1 ? now : before;
                }
            }
            if (now + next > 0) {
                List<Integer> found = firstTwice(items, signs, row, left - 1, now, next);
                if (found != null) {
                    return found;
                }
            }
            row.remove(row.size() - 1);
        }
        return null;
    }

    // ---- 2 books

    int word() {
        if (words.size() == 30) {
            return FULL;
        }
        if (letters.isEmpty()) {
            return NO;
        }
        words.add(letters);
        letters = new ArrayList<>();
        return words.size() - 1;
    }

    int count(int book, int word, int n) {
        if (!in(book, 0, 7) || !in(word, 0, words.size() - 1)) {
            return UNKNOWN;
        }
        if (!in(n, 0, 1000)) {
            return OUTSIDE;
        }
        int was = counts[book][word];
        counts[book][word] = n;
        return was;
    }

    /** Cells and points of a book; null, if a word in it can not be written. */
    private int[] bookSize(int book, List<Item> items) {
        int[] sum = new int[2];
        for (int w = 0; w < words.size(); w++) {
            if (counts[book][w] > 0) {
                List<Item> row = written(items, words.get(w));
                if (row == null) {
                    return null;
                }
                sum[0] += counts[book][w] * size(row);
                sum[1] += counts[book][w] * points(row);
            }
        }
        return sum;
    }

    int room(int book, int code, int what) {
        if (!in(book, 0, 7) || !in(code, 0, 4)) {
            return UNKNOWN;
        }
        if (!in(what, 0, 2)) {
            return OUTSIDE;
        }
        int[] sum = bookSize(book, items(code));
        if (sum == null) {
            return NO;
        }
        return what == 2 ? sum[0] / 200 + (sum[0] % 200 > 0 ? 1 : 0) : sum[what];
    }

    int row() {
        if (rows.size() == 12) {
            return FULL;
        }
        if (!in(letters.size(), 2, 4)) {
            return NO;
        }
        rows.add(letters);
        letters = new ArrayList<>();
        return rows.size() - 1;
    }

    int chosen(int book, int code, int k, int what) {
        if (!in(book, 0, 7) || !in(code, 0, 4)) {
            return UNKNOWN;
        }
        if (!in(k, 0, 12) || !in(what, 0, 1)) {
            return OUTSIDE;
        }
        int best = -1;
        int bestCells = 0;
        for (int set = 0; set < 1 << rows.size(); set++) {
            if (Integer.bitCount(set) > k) {
                continue;
            }
            int all = chosenCells(book, code, set);
            if (all < 0) {
                continue;
            }
            if (best < 0 || all < bestCells || all == bestCells && Integer.bitCount(set) < Integer.bitCount(best)) {
                best = set;
                bestCells = all;
            }
        }
        if (best < 0) {
            return NO;
        }
        return what == 0 ? best : bestCells;
    }

    private int chosenCells(int book, int code, int set) {
        int sum = 0;
        for (int w = 0; w < words.size(); w++) {
            if (counts[book][w] > 0) {
                int least = fewest(words.get(w), 0, code, set);
                if (least >= 1000) {
                    return -1;
                }
                sum += counts[book][w] * least;
            }
        }
        return sum;
    }

    private int fewest(List<Integer> text, int from, int code, int set) {
        if (from == text.size()) {
            return 0;
        }
        int least = cellOf[code][text.get(from)] == 0 ? 1000 : 1 + fewest(text, from + 1, code, set);
        for (int r = 0; r < rows.size(); r++) {
            if ((set >> r & 1) == 1 && begins(text, from, rows.get(r))) {
                least = Math.min(least, 1 + fewest(text, from + rows.get(r).size(), code, set));
            }
        }
        return least;
    }

    // ---- 3 readers

    int reader(int age, int school, boolean sighted) {
        if (!in(school, 0, 5)) {
            return UNKNOWN;
        }
        if (!in(age, 5, 90)) {
            return OUTSIDE;
        }
        if (people.size() == 20) {
            return FULL;
        }
        Person p = new Person();
        p.age = age;
        p.school = school;
        p.sighted = sighted;
        people.add(p);
        return people.size() - 1;
    }

    private boolean isReader(int reader) {
        return in(reader, 0, people.size() - 1);
    }

    int know(int reader, int code, int years) {
        if (!isReader(reader) || !in(code, 0, 4)) {
            return UNKNOWN;
        }
        if (!in(years, 0, 50)) {
            return OUTSIDE;
        }
        int was = people.get(reader).years[code];
        people.get(reader).years[code] = years;
        return was;
    }

    int move(int reader, int school) {
        if (!isReader(reader) || !in(school, 0, 5)) {
            return UNKNOWN;
        }
        int was = people.get(reader).school;
        people.get(reader).school = school;
        return was;
    }

    int about(int reader, int what) {
        if (!isReader(reader)) {
            return UNKNOWN;
        }
        Person p = people.get(reader);
        switch (what) {
            case 0:
                return p.age;
            case 1:
                return p.school;
            case 2:
                return p.sighted ? 1 : 0;
            case 3:
                return p.own();
            case 4:
                int bits = 0;
                for (int c = 0; c < 5; c++) {
                    bits += p.knows(c) ? 1 << c : 0;
                }
                return bits;
            case 10, 11, 12, 13, 14:
                return p.years[what - 10];
            default:
                return OUTSIDE;
        }
    }

    int near(int code, int cell) {
        if (!in(code, 0, 4)) {
            return UNKNOWN;
        }
        if (!in(cell, 1, 63)) {
            return OUTSIDE;
        }
        Set<Integer> those = new HashSet<>();
        for (int l = 0; l < 26; l++) {
            int other = cellOf[code][l];
            if (other != 0 && Integer.bitCount(other ^ cell) == 1) {
                those.add(other);
            }
        }
        return those.size();
    }

    int pace(int reader, int code) {
        if (!isReader(reader) || !in(code, 0, 4)) {
            return UNKNOWN;
        }
        Person p = people.get(reader);
        if (!p.knows(code)) {
            return STATE;
        }
        List<Item> row = written(items(code), letters);
        if (row == null) {
            return NO;
        }
        int sum = 0;
        for (Item item : row) {
            for (int cell : item.cells()) {
                sum += 10 + 2 * Integer.bitCount(cell) + 3 * near(code, cell);
            }
        }
        return sum * (100 + 300 / (p.years[code] + 1) + (p.age > 60 ? p.age - 60 : 0)) / 100;
    }

    int learn(int reader, int code) {
        if (!isReader(reader) || !in(code, 0, 4)) {
            return UNKNOWN;
        }
        Person p = people.get(reader);
        if (p.knows(code)) {
            return 0;
        }
        int unlike = 0;
        for (int l = 0; l < 26; l++) {
            int own = p.own() == NONE ? 0 : cellOf[p.own()][l];
            if (cellOf[code][l] != 0 && cellOf[code][l] != own) {
                unlike++;
            }
        }
        if (p.age > 70 && unlike >= 14) {
            return NONE;
        }
        return (2 * unlike + 3 * shorts.get(code).size()) * (100 + p.age) / 100;
    }

    // ---- 4 shelves

    int shelf(int school, int book, int code, int n) {
        if (!in(school, 0, 5) || !in(book, 0, 7) || !in(code, 0, 4)) {
            return UNKNOWN;
        }
        if (!in(n, 0, 100)) {
            return OUTSIDE;
        }
        int was = copies[school][book][code];
        copies[school][book][code] = n;
        return was;
    }

    private boolean canRead(Person p, int book) {
        for (int c = 0; c < 5; c++) {
            if (p.knows(c) && copies[p.school][book][c] > 0) {
                return true;
            }
        }
        return false;
    }

    int reads(int reader) {
        if (!isReader(reader)) {
            return UNKNOWN;
        }
        int bits = 0;
        for (int b = 0; b < 8; b++) {
            bits += canRead(people.get(reader), b) ? 1 << b : 0;
        }
        return bits;
    }

    private List<Person> at(int school) {
        return people.stream().filter(p -> p.school == school).toList();
    }

    int school(int school, int what) {
        if (!in(school, 0, 5)) {
            return UNKNOWN;
        }
        if (!in(what, 0, 3)) {
            return OUTSIDE;
        }
        if (what == 2) {
            return at(school).size();
        }
        if (what == 0) {
            int without = 0;
            for (int r = 0; r < people.size(); r++) {
                without += people.get(r).school == school && reads(r) == 0 ? 1 : 0;
            }
            return without;
        }
        int waste = 0;
        int unread = 0;
        for (int b = 0; b < 8; b++) {
            int book = b;
            int stand = 0;
            for (int c = 0; c < 5; c++) {
                int code = c;
                stand += copies[school][b][c];
                waste += at(school).stream().noneMatch(p -> p.knows(code)) ? copies[school][b][c] : 0;
            }
            if (stand > 0 && at(school).stream().noneMatch(p -> canRead(p, book))) {
                unread |= 1 << b;
            }
        }
        return what == 1 ? waste : unread;
    }

    int fund(int coin, int what) {
        if (!in(coin, 0, 1000) || !in(what, 0, 3)) {
            return OUTSIDE;
        }
        int[] best = {0, NONE, 0, 0};
        for (int c = 0; c < 5; c++) {
            int[] pages = new int[8];
            for (int b = 0; b < 8; b++) {
                pages[b] = room(b, c, 2);
            }
            for (int set = 0; set < 256; set++) {
                int gain = 0;
                int price = 0;
                boolean can = true;
                for (int b = 0; b < 8; b++) {
                    if ((set >> b & 1) == 1) {
                        can = can && pages[b] != NO;
                        price += pages[b];
                        for (Person p : people) {
                            gain += p.knows(c) && !canRead(p, b) ? 1 : 0;
                        }
                    }
                }
                if (can && price <= coin && (gain > best[0] || gain == best[0] && c == best[1] && price < best[3])) {
                    best = new int[] {gain, c, set, price};
                }
            }
        }
        return best[what];
    }

    // ---- 5 boards

    int sign(int s) {
        if (!in(s, 33, 126)) {
            return OUTSIDE;
        }
        if (signs.length() == 40) {
            return FULL;
        }
        signs += (char) s;
        return signs.length();
    }

    private static final String TEST = "[ayks][<>=][0-9]{1,3}";
    private static final Pattern RULE = Pattern.compile(TEST + "([&|]" + TEST + ")*");
    /** Texts that some more signs could make a rule. */
    private static final Pattern OPEN = Pattern.compile("(" + TEST + "[&|])*([ayks]([<>=]([0-9]{1,3})?)?)?");

    int fault() {
        if (RULE.matcher(signs).matches()) {
            return NONE;
        }
        int place = 0;
        while (place < signs.length() && OPEN.matcher(signs.substring(0, place + 1)).matches()) {
            place++;
        }
        return place;
    }

    int board(int school) {
        if (!in(school, 0, 5)) {
            return UNKNOWN;
        }
        if (fault() != NONE) {
            return NO;
        }
        int answer = rules[school] == null ? 1 : 0;
        rules[school] = signs;
        signs = "";
        return answer;
    }

    private boolean may(Person p) {
        if (rules[p.school] == null) {
            return false;
        }
        for (String clause : rules[p.school].split("\\|")) {
            boolean all = true;
            for (String test : clause.split("&")) {
                int known = (int) Arrays.stream(p.years).filter(y -> y > 0).count();
                int value = switch (test.charAt(0)) {
                    case 'a' -> p.age;
                    case 'y' -> p.own() == NONE ? 0 : p.years[p.own()];
                    case 'k' -> known;
                    default -> p.sighted ? 1 : 0;
                };
                int number = Integer.parseInt(test.substring(2));
                all &= switch (test.charAt(1)) {
                    case '<' -> value < number;
                    case '>' -> value > number;
                    default -> value == number;
                };
            }
            if (all) {
                return true;
            }
        }
        return false;
    }

    int voters(int school) {
        if (!in(school, 0, 5)) {
            return UNKNOWN;
        }
        int bits = 0;
        for (int r = 0; r < people.size(); r++) {
            bits += people.get(r).school == school && may(people.get(r)) ? 1 << r : 0;
        }
        return bits;
    }

    int choice(int school, boolean asked) {
        if (!in(school, 0, 5)) {
            return UNKNOWN;
        }
        int[] votes = new int[5];
        for (Person p : at(school)) {
            if (p.own() != NONE && (asked || may(p))) {
                votes[p.own()]++;
            }
        }
        int most = Arrays.stream(votes).max().getAsInt();
        for (int c = 0; c < 5; c++) {
            if (most > 0 && votes[c] == most) {
                return c;
            }
        }
        return NONE;
    }

    // ---- 6 a new code

    int part(int l, int p) {
        if (!in(l, 0, 25)) {
            return UNKNOWN;
        }
        if (!in(p, -1, 6)) {
            return OUTSIDE;
        }
        int was = parts[l];
        parts[l] = p == -1 ? NONE : p;
        return was;
    }

    private static String digitsOf(int digits) {
        String text = digits < 0 ? "x" : String.format("%07d", digits);
        return text.matches("[0-4]{7}") ? text : null;
    }

    /** The cells of letters in a mix; null, if it may not be. */
    private int[] mixed(String digits) {
        int[] mix = new int[26];
        Set<Integer> used = new HashSet<>();
        for (int l = 0; l < 26; l++) {
            if (parts[l] != NONE) {
                mix[l] = cellOf[digits.charAt(parts[l]) - '0'][l];
                if (mix[l] == 0 || !used.add(mix[l])) {
                    return null;
                }
            }
        }
        return mix;
    }

    private int anewOf(int[] mix) {
        int sum = 0;
        for (Person p : people) {
            for (int l = 0; l < 26 && p.own() != NONE; l++) {
                sum += parts[l] != NONE && cellOf[p.own()][l] != mix[l] ? 1 : 0;
            }
        }
        return sum;
    }

    int mix(int digits) {
        String text = digitsOf(digits);
        if (text == null) {
            return OUTSIDE;
        }
        return mixed(text) == null ? 0 : 1;
    }

    int anew(int digits) {
        String text = digitsOf(digits);
        if (text == null) {
            return OUTSIDE;
        }
        int[] mix = mixed(text);
        return mix == null ? NO : anewOf(mix);
    }

    int best() {
        boolean[] has = new boolean[7];
        for (int l = 0; l < 26; l++) {
            if (parts[l] != NONE) {
                has[parts[l]] = true;
            }
        }
        int[] best = {NO, Integer.MAX_VALUE};
        bestFrom("", has, best);
        return best[0];
    }

    private void bestFrom(String digits, boolean[] has, int[] best) {
        int p = digits.length();
        if (p == 7) {
            int[] mix = mixed(digits);
            if (mix != null && anewOf(mix) < best[1]) {
                best[0] = Integer.parseInt(digits);
                best[1] = anewOf(mix);
            }
            return;
        }
        for (int c = 0; c < (has[p] ? 5 : 1); c++) {
            bestFrom(digits + c, has, best);
        }
    }

    int told(int what) {
        switch (what) {
            case 0:
                return letters.size();
            case 1:
                return cells.size();
            case 2:
                return signs.length();
            case 3:
                return words.size();
            case 4:
                return rows.size();
            case 5:
                return people.size();
            case 6:
                int sum = 0;
                for (int[][] school : copies) {
                    for (int[] book : school) {
                        sum += Arrays.stream(book).sum();
                    }
                }
                return sum;
            case 10, 11, 12, 13, 14:
                return shorts.get(what - 10).size();
            case 20, 21, 22, 23, 24:
                return lettersOf(what - 20).size();
            default:
                return OUTSIDE;
        }
    }
}
