/** Each sentence that names a boundary case of copies, notes and counts, and what is refused: promises 24 to 31 and 33. */
public final class EdgesCopiesTest {
    private static final int NONE = InkBars.NONE;
    private static final int MIN = Integer.MIN_VALUE;
    private static final int MAX = Integer.MAX_VALUE;
    private static final int ALL = (1 << 24) - 1;
    private static final String TWENTY_FOUR = "a b c d e f g h i j k l m n o p q r s t u v w x";
    private static final Due due = new Due("edges of copies");

    public static void main(String[] args) {
        copySheets();
        copyDays();
        copyHouses();
        copyTokens();
        copyFull();
        open();
        openByDays();
        openOfSheets();
        openRefused();
        needless();
        needlessOwnDay();
        needlessRefused();
        since();
        sinceRefused();
        twice();
        twiceRefused();
        stricterEachSheet();
        stricterTogether();
        stricterSomewhere();
        stricterRefused();
        noteBounds();
        noteOneEach();
        noteOrder();
        noteFull();
        missing();
        missingSheets();
        missingRefused();
        counts();
        countsOfSheets();
        countRefused();
        refused();
        due.end();
    }

    /** Sheet 0 of three tokens, sheet 1 of one, sheet 2 of 24. */
    private static InkBars sheets() {
        InkBars x = new InkBars();
        Due.sheet(x, 500, "ab cd ef");
        Due.sheet(x, 500, "gh");
        Due.sheet(x, 500, TWENTY_FOUR);
        return x;
    }

    private static InkBars six() {
        InkBars x = new InkBars();
        for (int s = 0; s < 6; s++) {
            Due.sheet(x, 500, "ab cd ef");
        }
        return x;
    }

    // ---- promise 24 ----

    private static void copySheets() {
        due.sentence("A COPY of SHEET s: its number; NONE: no such ones, 8 are there.");
        InkBars x = new InkBars();
        due.is("no sheets", x.copy(0, 0, 0, 0), NONE);
        Due.sheet(x, 500, "ab");
        int[] none = {-1, 1, 5, 6, MIN, MAX};
        for (int s : none) {
            due.is("copy(" + s + ", 0, 0, 0)", x.copy(s, 0, 0, 0), NONE);
        }
        due.is("count(7)", x.count(7), 0);
        InkBars y = six();
        for (int s = 0; s < 6; s++) {
            due.is("a copy of sheet " + s, y.copy(s, 0, 0, 7), s);
        }
        due.is("a copy of sheet 6", y.copy(6, 0, 0, 0), NONE);
    }

    private static void copyDays() {
        due.sentence("A COPY 0 to 7 of a SHEET: a DAY (0 to 9999)");
        InkBars x = sheets();
        int[] none = {-1, 10000, MIN, MAX};
        for (int day : none) {
            due.is("copy(0, " + day + ", 0, 0)", x.copy(0, day, 0, 0), NONE);
        }
        due.is("day 9999", x.copy(0, 9999, 0, 3), 0);
        due.is("since day 9999", x.since(0, 2), 9999);
        due.is("day 0", x.copy(0, 0, 0, 3), 1);
        due.is("since day 0", x.since(0, 2), 0);
    }

    private static void copyHouses() {
        due.sentence("a HOUSE (0 to 3), which TOKENS it has covered (bits)");
        InkBars x = sheets();
        int[] none = {-1, 4, MIN, MAX};
        for (int h : none) {
            due.is("copy(0, 0, " + h + ", 0)", x.copy(0, 0, h, 0), NONE);
        }
        for (int h = 0; h < 4; h++) {
            due.is("copy of house " + h, x.copy(0, 0, h, (1 << h) - 1), h);
        }
        for (int a = 0; a < 4; a++) {
            for (int b = 0; b < 4; b++) {
                due.is("stricter(" + a + ", " + b + ")", x.stricter(a, b), a == b ? NONE : a > b ? 1 : 0);
            }
        }
    }

    private static void copyTokens() {
        due.sentence("which TOKENS it has covered (bits).");
        InkBars x = sheets();
        int[][] none = {{0, 8}, {0, 15}, {0, -1}, {0, MIN}, {0, MAX}, {1, 2}, {1, 3}, {1, -2}, {2, ALL + 1}, {2, MAX},
            {2, -1}};
        for (int[] v : none) {
            due.is("copy(" + v[0] + ", 0, 0, " + v[1] + ")", x.copy(v[0], 0, 0, v[1]), NONE);
        }
        due.is("count(7)", x.count(7), 0);
        due.is("none", x.copy(0, 0, 0, 0), 0);
        due.is("all three", x.copy(0, 1, 0, 7), 1);
        due.is("the one", x.copy(1, 1, 0, 1), 2);
        due.is("all 24", x.copy(2, 1, 0, ALL), 3);
        due.is("the last of 24", x.copy(2, 1, 0, 1 << 23), 4);
        due.is("needless: all three", x.needless(1), 7);
        due.is("open: all but the last", x.open(2, 1), ALL >> 1);
    }

    private static void copyFull() {
        due.sentence("A COPY 0 to 7 of a SHEET");
        InkBars x = sheets();
        for (int c = 0; c < 8; c++) {
            due.is("copy " + c, x.copy(c % 2, c, 0, c < 7 ? 1 : 0), c);
            due.is("count(7)", x.count(7), c + 1);
        }
        due.is("a ninth", x.copy(0, 0, 0, 0), NONE);
        due.is("a ninth of another sheet", x.copy(2, 0, 0, 0), NONE);
        due.is("eight", x.count(7), 8);
        due.is("the eighth counts", x.since(1, 0), 7);
        due.is("the ninth does not", x.since(0, 0), NONE);
        due.is("nor that of another sheet", x.open(2, 9999), 0);
    }

    // ---- promises 25, 26 ----

    private static void open() {
        due.sentence("OPEN in a SHEET: TOKENS that are not covered in some COPY by a DAY");
        InkBars x = sheets();
        due.is("no copy", x.open(0, 9999), 0);
        x.copy(0, 5, 0, 7);
        due.is("all covered", x.open(0, 5), 0);
        x.copy(0, 5, 1, 6);
        due.is("one not, in another copy", x.open(0, 5), 1);
        x.copy(0, 5, 0, 5);
        due.is("two not, each in another copy", x.open(0, 5), 3);
        x.copy(0, 5, 0, 7);
        due.is("and still", x.open(0, 5), 3);
        x.copy(2, 5, 0, 0);
        due.is("all 24", x.open(2, 5), ALL);
    }

    private static void openByDays() {
        due.sentence("(of COPIES of that DAY and before)");
        InkBars x = sheets();
        x.copy(0, 9999, 0, 3);
        x.copy(0, 20, 0, 5);
        x.copy(0, 0, 0, 6);
        int[] days = {0, 1, 19, 20, 21, 9998, 9999};
        int[] want = {1, 1, 1, 3, 3, 3, 7};
        for (int d = 0; d < 7; d++) {
            due.is("by day " + days[d], x.open(0, days[d]), want[d]);
        }
    }

    private static void openOfSheets() {
        due.sentence("`int open(int s, int day)`: OPEN in SHEET s by a DAY, as bits; NONE: no such ones.");
        InkBars x = six();
        for (int s = 0; s < 6; s++) {
            x.copy(s, s, 0, s + 1);
        }
        for (int s = 0; s < 6; s++) {
            due.is("sheet " + s, x.open(s, s), 7 - (s + 1));
            due.is("sheet " + s + ", the day before", s == 0 ? 0 : x.open(s, s - 1), 0);
        }
    }

    private static void openRefused() {
        due.sentence("OPEN in SHEET s by a DAY, as bits; NONE: no such ones.");
        InkBars x = new InkBars();
        due.is("no sheets", x.open(0, 0), NONE);
        x = sheets();
        int[] noSheet = {-1, 3, 5, 6, MIN, MAX};
        for (int s : noSheet) {
            due.is("open(" + s + ", 0)", x.open(s, 0), NONE);
        }
        int[] noDay = {-1, 10000, MIN, MAX};
        for (int day : noDay) {
            due.is("open(0, " + day + ")", x.open(0, day), NONE);
        }
        due.is("open(0, 0)", x.open(0, 0), 0);
        due.is("open(2, 9999)", x.open(2, 9999), 0);
    }

    private static void needless() {
        due.sentence("NEEDLESS in a COPY: what it covers though it was OPEN by the DAY before its own.");
        InkBars x = sheets();
        x.copy(0, 4, 0, 6);
        x.copy(0, 5, 1, 1);
        x.copy(0, 5, 2, 7);
        x.copy(0, 6, 3, 2);
        x.copy(0, 6, 3, 0);
        x.copy(1, 6, 3, 1);
        due.is("the first: nothing was open", x.needless(0), 0);
        due.is("what was open the day before", x.needless(1), 1);
        due.is("but not what is open on its own day", x.needless(2), 1);
        due.is("open since day 5", x.needless(3), 2);
        due.is("what covers nothing", x.needless(4), 0);
        due.is("another sheet", x.needless(5), 0);
        x.copy(0, 3, 0, 1);
        due.is("a copy told later, of an earlier day", x.needless(0), 6);
    }

    private static void needlessOwnDay() {
        due.sentence("by the DAY before its own.");
        InkBars x = sheets();
        x.copy(0, 0, 0, 0);
        x.copy(0, 0, 0, 7);
        x.copy(0, 1, 0, 7);
        x.copy(0, 9999, 0, 7);
        due.is("day 0: there is no day before", x.needless(1), 0);
        due.is("day 1", x.needless(2), 7);
        due.is("day 9999", x.needless(3), 7);
        InkBars y = sheets();
        y.copy(2, 9998, 0, 0);
        y.copy(2, 9999, 0, ALL);
        due.is("all 24", y.needless(1), ALL);
    }

    private static void needlessRefused() {
        due.sentence("NEEDLESS in COPY c, as bits; NONE: no such one.");
        InkBars x = sheets();
        due.is("no copies", x.needless(0), NONE);
        x.copy(0, 0, 0, 7);
        int[] none = {-1, 1, 7, 8, MIN, MAX};
        for (int c : none) {
            due.is("needless(" + c + ")", x.needless(c), NONE);
        }
        due.is("needless(0)", x.needless(0), 0);
        for (int c = 1; c < 8; c++) {
            x.copy(0, c, 0, 7);
        }
        due.is("needless(7)", x.needless(7), 0);
        due.is("needless(8)", x.needless(8), NONE);
    }

    // ---- promises 27, 28 ----

    private static void since() {
        due.sentence("The first DAY by which TOKEN t of SHEET s was OPEN; NONE: it was not, no such ones.");
        InkBars x = sheets();
        due.is("no copies", x.since(0, 0), NONE);
        x.copy(0, 30, 0, 6);
        x.copy(0, 10, 0, 5);
        x.copy(0, 20, 0, 4);
        due.is("token 0: the first, not the first told", x.since(0, 0), 20);
        due.is("token 1", x.since(0, 1), 10);
        due.is("token 2: it was not", x.since(0, 2), NONE);
        due.is("another sheet", x.since(1, 0), NONE);
        x.copy(0, 10, 0, 7);
        due.is("covered later or elsewhere", x.since(0, 1), 10);
        x.copy(0, 0, 0, 3);
        due.is("day 0", x.since(0, 2), 0);
        x.copy(0, 9999, 0, 0);
        due.is("still day 0", x.since(0, 2), 0);
        x.copy(2, 9999, 0, ALL >> 1);
        due.is("the last of 24", x.since(2, 23), 9999);
        due.is("the one before", x.since(2, 22), NONE);
    }

    private static void sinceRefused() {
        due.sentence("was OPEN; NONE: it was not, no such ones.");
        InkBars x = new InkBars();
        due.is("no sheets", x.since(0, 0), NONE);
        x = sheets();
        x.copy(0, 1, 0, 0);
        x.copy(1, 1, 0, 0);
        x.copy(2, 1, 0, 0);
        int[] noToken = {-1, 3, 4, 23, 24, 31, 32, 33, MIN, MAX};
        for (int t : noToken) {
            due.is("since(0, " + t + ")", x.since(0, t), NONE);
        }
        int[] noneOf24 = {-1, 24, 25, 32, 55, MIN, MAX};
        for (int t : noneOf24) {
            due.is("since(2, " + t + ")", x.since(2, t), NONE);
        }
        due.is("since(1, 1)", x.since(1, 1), NONE);
        int[] noSheet = {-1, 3, 5, 6, MIN, MAX};
        for (int s : noSheet) {
            due.is("since(" + s + ", 0)", x.since(s, 0), NONE);
        }
        due.is("since(0, 2)", x.since(0, 2), 1);
        due.is("since(2, 23)", x.since(2, 23), 1);
    }

    private static void twice() {
        due.sentence("COVERED TWICE: COPIES x, y of a SHEET: what both cover;");
        InkBars x = sheets();
        x.copy(2, 0, 0, ALL);
        x.copy(2, 9999, 3, ALL);
        x.copy(2, 0, 0, 1 << 23 | 1);
        x.copy(2, 0, 0, 6);
        x.copy(2, 0, 0, 0);
        due.is("all 24", x.twice(0, 1), ALL);
        due.is("two", x.twice(1, 2), 1 << 23 | 1);
        due.is("the other way", x.twice(2, 1), 1 << 23 | 1);
        due.is("nothing", x.twice(2, 3), 0);
        due.is("one that covers nothing", x.twice(0, 4), 0);
    }

    private static void twiceRefused() {
        due.sentence("COVERED TWICE, as bits; NONE: no such ones, not of one SHEET, one twice.");
        InkBars x = sheets();
        due.is("no copies", x.twice(0, 1), NONE);
        x.copy(0, 0, 0, 1);
        due.is("one copy", x.twice(0, 1), NONE);
        due.is("one copy, the other way", x.twice(1, 0), NONE);
        due.is("one twice", x.twice(0, 0), NONE);
        x.copy(0, 0, 0, 1);
        x.copy(1, 0, 0, 1);
        due.is("of one sheet", x.twice(0, 1), 1);
        due.is("not of one sheet", x.twice(1, 2), NONE);
        due.is("not of one sheet, the other way", x.twice(2, 0), NONE);
        int[] none = {-1, 3, 7, 8, MIN, MAX};
        for (int c : none) {
            due.is("twice(" + c + ", 0)", x.twice(c, 0), NONE);
            due.is("twice(0, " + c + ")", x.twice(0, c), NONE);
            due.is("twice(" + c + ", " + c + ")", x.twice(c, c), NONE);
        }
        for (int c = 0; c < 3; c++) {
            due.is("one twice: " + c, x.twice(c, c), NONE);
        }
    }

    // ---- promise 29 ----

    private static void stricterEachSheet() {
        due.sentence("a HOUSE STRICTER than another: if on each SHEET of which both have COPIES, the first one covers");
        InkBars x = six();
        x.copy(0, 0, 0, 3);
        x.copy(0, 0, 1, 1);
        due.is("one sheet: more", x.stricter(0, 1), 1);
        due.is("one sheet: less", x.stricter(1, 0), 0);
        x.copy(5, 0, 0, 2);
        due.is("a sheet of the first alone", x.stricter(0, 1), 1);
        x.copy(4, 0, 1, 7);
        due.is("a sheet of the second alone", x.stricter(0, 1), 1);
        x.copy(5, 0, 1, 2);
        due.is("alike on the last sheet", x.stricter(0, 1), 1);
        x.copy(4, 9, 0, 6);
        due.is("less on sheet 4", x.stricter(0, 1), 0);
        due.is("but the other is less on sheet 0", x.stricter(1, 0), 0);
        x.copy(4, 9999, 0, 1);
        due.is("alike on sheet 4, by two copies", x.stricter(0, 1), 1);
    }

    private static void stricterTogether() {
        due.sentence("by all its COPIES together");
        InkBars x = sheets();
        x.copy(0, 0, 2, 1);
        x.copy(0, 5, 3, 3);
        due.is("one of two", x.stricter(2, 3), 0);
        due.is("two of one", x.stricter(3, 2), 1);
        x.copy(0, 9, 2, 2);
        due.is("alike together", x.stricter(2, 3), 0);
        due.is("alike together, the other way", x.stricter(3, 2), 0);
        x.copy(0, 1, 2, 4);
        due.is("more together", x.stricter(2, 3), 1);
        due.is("less, the other way", x.stricter(3, 2), 0);
        x.copy(0, 2, 2, 0);
        due.is("a copy that covers nothing", x.stricter(2, 3), 1);
        x.copy(0, 2, 3, 7);
        due.is("alike again", x.stricter(2, 3), 0);
    }

    private static void stricterSomewhere() {
        due.sentence("all that the other one does, and somewhere more.");
        InkBars x = sheets();
        x.copy(0, 0, 0, 0);
        x.copy(0, 0, 1, 0);
        due.is("both cover nothing", x.stricter(0, 1), 0);
        x.copy(2, 0, 0, 1 << 23);
        due.is("more on a sheet of one alone", x.stricter(0, 1), 0);
        x.copy(2, 0, 1, 0);
        due.is("more on one of both", x.stricter(0, 1), 1);
        x.copy(2, 0, 1, 1 << 22);
        due.is("neither covers all of the other one", x.stricter(0, 1), 0);
        due.is("neither, the other way", x.stricter(1, 0), 0);
        x.copy(2, 0, 0, ALL);
        due.is("all 24", x.stricter(0, 1), 1);
    }

    private static void stricterRefused() {
        due.sentence("1, 0; NONE: no such ones, one twice, no SHEET of which both have COPIES.");
        InkBars x = sheets();
        due.is("no copies", x.stricter(0, 1), NONE);
        x.copy(0, 0, 0, 1);
        due.is("the other has none", x.stricter(0, 1), NONE);
        due.is("the first has none", x.stricter(1, 0), NONE);
        x.copy(1, 0, 1, 1);
        due.is("of other sheets", x.stricter(0, 1), NONE);
        due.is("of other sheets, the other way", x.stricter(1, 0), NONE);
        x.copy(1, 0, 0, 1);
        due.is("of one sheet", x.stricter(0, 1), 0);
        for (int h = 0; h < 4; h++) {
            due.is("one twice: " + h, x.stricter(h, h), NONE);
        }
        InkBars y = sheets();
        y.copy(0, 0, 1, 1);
        due.is("house 0 has none", y.stricter(0, 1), NONE);
        due.is("house 0 has none, the other way", y.stricter(1, 0), NONE);
        y.copy(0, 0, 2, 1);
        due.is("houses 1 and 2 have one", y.stricter(1, 2), 0);
        int[] without = {0, 3};
        for (int h : without) {
            due.is("house " + h + " has none still", y.stricter(h, 2), NONE);
            due.is("house " + h + " has none still, the other way", y.stricter(1, h), NONE);
        }
        due.is("neither has", y.stricter(0, 3), NONE);
        int[] none = {-1, 4, 5, MIN, MAX};
        for (int h : none) {
            due.is("stricter(" + h + ", 0)", x.stricter(h, 0), NONE);
            due.is("stricter(0, " + h + ")", x.stricter(0, h), NONE);
        }
    }

    // ---- promises 30, 31 ----

    private static void noteBounds() {
        due.sentence("NOTES: numbers (1 to 40) that stand in SHEETS");
        InkBars x = new InkBars();
        due.is("no sheets", x.note(1, 0), false);
        x = sheets();
        int[] noNumber = {0, 41, -1, MIN, MAX};
        for (int n : noNumber) {
            due.is("note(" + n + ", 0)", x.note(n, 0), false);
        }
        int[] noSheet = {-1, 3, 5, 6, MIN, MAX};
        for (int s : noSheet) {
            due.is("note(1, " + s + ")", x.note(1, s), false);
        }
        due.is("none", x.count(8), 0);
        due.is("note(1, 0)", x.note(1, 0), true);
        due.is("note(40, 2)", x.note(40, 2), true);
        due.is("two", x.count(8), 2);
    }

    private static void noteOneEach() {
        due.sentence("(one each at most)");
        for (int s = 0; s < 6; s++) {
            InkBars x = six();
            due.is("note(20, " + s + ")", x.note(20, s), true);
            int[] others = {20, 19, 21, 1, 40};
            for (int n : others) {
                due.is("another one: note(" + n + ", " + s + ")", x.note(n, s), false);
            }
            due.is("one", x.count(8), 1);
        }
        due.sentence("NOTE n stands in SHEET s: true; false: no such ones, it is told, it would be out of order.");
        InkBars y = six();
        y.note(20, 3);
        for (int s = 0; s < 6; s++) {
            due.is("it is told: note(20, " + s + ")", y.note(20, s), false);
        }
        due.is("one", y.count(8), 1);
    }

    private static void noteOrder() {
        due.sentence("from SHEET to SHEET they grow (a number that stands in an earlier SHEET is less).");
        InkBars x = six();
        due.is("note(10, 1)", x.note(10, 1), true);
        due.is("note(20, 4)", x.note(20, 4), true);
        int[][] out = {{11, 0}, {10, 0}, {20, 0}, {9, 2}, {10, 2}, {20, 2}, {21, 2}, {40, 3}, {1, 3}, {20, 5}, {19, 5}, {1, 5}};
        for (int[] v : out) {
            due.is("note(" + v[0] + ", " + v[1] + ")", x.note(v[0], v[1]), false);
        }
        due.is("two", x.count(8), 2);
        due.is("just behind: note(11, 2)", x.note(11, 2), true);
        due.is("just ahead: note(19, 3)", x.note(19, 3), true);
        due.is("just ahead: note(9, 0)", x.note(9, 0), true);
        due.is("just behind: note(21, 5)", x.note(21, 5), true);
        due.is("six", x.count(8), 6);
    }

    private static void noteFull() {
        due.sentence("no such ones, it is told, it would be out of order.");
        InkBars x = six();
        int[] order = {3, 0, 5, 1, 4, 2};
        for (int s : order) {
            due.is("note(" + (s + 35) + ", " + s + ")", x.note(s + 35, s), true);
        }
        due.is("six", x.count(8), 6);
        due.is("34 is missing: first", x.missing(34, 0), 0);
        due.is("34 is missing: last", x.missing(34, 1), 0);
        due.is("35 is not", x.missing(35, 0), NONE);
        due.is("40 is not", x.missing(40, 0), NONE);
        due.is("0 is no number", x.missing(0, 0), NONE);
        InkBars y = new InkBars();
        Due.sheet(y, 500, "a");
        due.is("note(5, 1) of no sheet", y.note(5, 1), false);
        Due.sheet(y, 500, "a");
        due.is("note(5, 1)", y.note(5, 1), true);
        due.is("a sheet told later has none yet", Due.sheet(y, 500, "a"), 2);
        due.is("note(6, 2)", y.note(6, 2), true);
    }

    private static void missing() {
        due.sentence("MISSING is a number, up to the greatest told, that is not told");
        InkBars x = six();
        for (int n = 0; n <= 41; n++) {
            due.is("no notes: " + n, x.missing(n, 0), NONE);
        }
        x.note(3, 1);
        x.note(6, 3);
        for (int n = -1; n <= 41; n++) {
            boolean missing = n == 1 || n == 2 || n == 4 || n == 5;
            due.is("first of " + n, x.missing(n, 0), !missing ? NONE : n < 3 ? 0 : 1);
            due.is("last of " + n, x.missing(n, 1), !missing ? NONE : n < 3 ? 1 : 3);
        }
        x.note(40, 5);
        due.is("39: first", x.missing(39, 0), 3);
        due.is("39: last", x.missing(39, 1), 5);
        due.is("7: first", x.missing(7, 0), 3);
    }

    private static void missingSheets() {
        due.sentence("it must have stood in a SHEET from that of the next lower told one (0: there is none) to that of the next higher told one.");
        InkBars x = six();
        x.note(40, 5);
        due.is("no lower one: first", x.missing(1, 0), 0);
        due.is("no lower one: last", x.missing(1, 1), 5);
        due.is("39: first", x.missing(39, 0), 0);
        x.note(20, 2);
        due.is("ahead of 20: first", x.missing(19, 0), 0);
        due.is("ahead of 20: last", x.missing(19, 1), 2);
        due.is("behind 20: first", x.missing(21, 0), 2);
        due.is("behind 20: last", x.missing(21, 1), 5);
        x.note(30, 3);
        due.is("between the next two: first", x.missing(25, 0), 2);
        due.is("between the next two: last", x.missing(25, 1), 3);
        due.is("behind 30: first", x.missing(31, 0), 3);
        due.is("30 is told", x.missing(30, 0), NONE);
        InkBars y = six();
        y.note(2, 0);
        due.is("in the one sheet: first", y.missing(1, 0), 0);
        due.is("in the one sheet: last", y.missing(1, 1), 0);
        InkBars z = six();
        z.note(1, 5);
        due.is("none is missing ahead of 1", z.missing(1, 0), NONE);
        due.is("0 is no number", z.missing(0, 1), NONE);
    }

    private static void missingRefused() {
        due.sentence("what 0 the first, 1 the last SHEET in which it must have stood; NONE: it is not MISSING, no such ones.");
        InkBars x = six();
        x.note(5, 2);
        int[] noNumber = {0, -1, 5, 6, 40, 41, MIN, MAX};
        for (int n : noNumber) {
            due.is("missing(" + n + ", 0)", x.missing(n, 0), NONE);
            due.is("missing(" + n + ", 1)", x.missing(n, 1), NONE);
        }
        int[] noWhat = {-1, 2, 3, MIN, MAX};
        for (int what : noWhat) {
            due.is("missing(4, " + what + ")", x.missing(4, what), NONE);
        }
        due.is("missing(4, 0)", x.missing(4, 0), 0);
        due.is("missing(4, 1)", x.missing(4, 1), 2);
    }

    // ---- promise 33 ----

    private static InkBars told() {
        InkBars x = new InkBars();
        for (int i = 0; i < 9; i++) {
            Due.name(x, "" + (char) ('a' + i), 0, 0, 199, 1);
        }
        for (int k = 0; k < 3; k++) {
            x.bar(10, NONE, 255);
        }
        Due.sheet(x, 50, "a/0 b c/d");
        Due.sheet(x, 50, "aaaaaaaaaaaa aaaaaaaaaaaa");
        Due.rules(x, "0(n>0);0(n>0);0(n>0);0(n>0)");
        for (int t = 0; t < 5; t++) {
            x.tie(1, 0, 1);
        }
        for (int t = 0; t < 6; t++) {
            x.listed(0, NONE, NONE);
        }
        for (int t = 0; t < 7; t++) {
            x.lifted(0, 0, 10 + t);
        }
        for (int c = 0; c < 8; c++) {
            x.copy(0, c, c % 4, c);
        }
        x.note(30, 1);
        x.house(2);
        for (int f = 0; f < 3; f++) {
            x.feed(0x7a7a7a7a, 0, 0, 0, 0);
        }
        return x;
    }

    private static void counts() {
        due.sentence("0 NAMES, 1 BARS, 2 SHEETS, 3 CLAUSES, 4 TIES, 5 LISTED ones, 6 LIFTED ones, 7 COPIES, 8 NOTES, 9 bytes of the tape, 10 THE HOUSE;");
        InkBars x = told();
        int[] want = {9, 3, 2, 4, 5, 6, 7, 8, 1, 60, 2};
        for (int what = 0; what <= 10; what++) {
            due.is("count(" + what + ")", x.count(what), want[what]);
            due.is("count(" + what + ") at first", new InkBars().count(what), 0);
        }
    }

    private static void countsOfSheets() {
        due.sentence("20 + s TOKENS of SHEET s, 30 + s its lines as they break.");
        InkBars x = told();
        due.is("tokens of sheet 0", x.count(20), 5);
        due.is("tokens of sheet 1", x.count(21), 2);
        due.is("lines of sheet 0", x.count(30), 3);
        due.is("lines of sheet 1, as they break, not as they would", x.count(31), 1);
        due.is("as they would", x.line(1, 0, 1), 1);
        InkBars y = new InkBars();
        for (int s = 0; s < 6; s++) {
            due.is("tokens of sheet " + s + " ahead of it", y.count(20 + s), NONE);
            due.is("lines of sheet " + s + " ahead of it", y.count(30 + s), NONE);
            Due.sheet(y, 500, "a b" + "/c d".repeat(s));
            due.is("tokens of sheet " + s, y.count(20 + s), 2 + 2 * s);
            due.is("lines of sheet " + s, y.count(30 + s), 1 + s);
        }
        due.is("no sheet 6: tokens", y.count(26), NONE);
        due.is("no sheet 6: lines", y.count(36), NONE);
        InkBars z = new InkBars();
        Due.sheet(z, 500, TWENTY_FOUR);
        Due.sheet(z, 500, TWENTY_FOUR.replace(' ', '/'));
        due.is("24 tokens", z.count(20), 24);
        due.is("one line", z.count(30), 1);
        due.is("24 lines", z.count(31), 24);
    }

    private static void countRefused() {
        due.sentence("its lines as they break. NONE for others.");
        InkBars x = told();
        InkBars y = new InkBars();
        for (int what = -2; what <= 60; what++) {
            boolean known = what >= 0 && what <= 10 || what == 20 || what == 21 || what == 30 || what == 31;
            due.is("count(" + what + ") is NONE", x.count(what) == NONE, !known);
            due.is("count(" + what + ") is NONE at first", y.count(what) == NONE, what < 0 || what > 10);
        }
        due.is("count(MIN)", x.count(MIN), NONE);
        due.is("count(MAX)", x.count(MAX), NONE);
    }

    // ---- refused calls ----

    /** All that can be asked of an object, as one text. */
    private static String all(InkBars x) {
        StringBuilder s = new StringBuilder();
        for (int what = 0; what <= 36; what++) {
            s.append(' ').append(x.count(what));
        }
        for (int i = 0; i < 9; i++) {
            s.append(" w").append(x.wide(i));
            for (int k = 0; k < 4; k++) {
                s.append(' ').append(x.against(k, i)).append(' ').append(x.odds(k, i));
            }
        }
        for (int k = 0; k < 4; k++) {
            s.append(" h").append(x.habit(k, 0)).append(' ').append(x.habit(k, 1)).append(' ').append(x.may(k));
            s.append(' ').append(x.said(k, 500, 0)).append(' ').append(x.said(k, 500, 1)).append(' ').append(x.stricter(k, 1));
        }
        for (int c = 0; c < 8; c++) {
            s.append(" c").append(x.needless(c)).append(' ').append(x.twice(0, c)).append(' ').append(x.since(0, c));
            s.append(' ').append(x.open(0, c)).append(' ').append(x.kept(c)).append(' ').append(x.line(0, 25, c));
        }
        for (int r = 0; r < 64; r += 3) {
            s.append(" f").append(x.fillings(r)).append(' ').append(x.judge(24 * r)).append(' ').append(x.missing(r, 1));
        }
        return s.append(' ').append(x.given()).toString();
    }

    /** Makes a call that is refused; false behind the last one. */
    private static boolean refuse(InkBars x, int call) {
        switch (call) {
            case 0: return still(x.width(27, 5) || x.width(1, 0) || x.width(0, 61));
            case 1: return still(x.joined(0, 1, 5) || x.joined(1, 27, 5) || x.joined(1, 1, 21));
            case 2: return still(x.name(0, 0, 0, 0, 1) != NONE || x.name(13, 0, 0, 0, 1) != NONE);
            case 3: return still(x.name(3, 8, 0, 0, 1) != NONE || x.name(3, 0, 5, 4, 1) != NONE);
            case 4: return still(x.name(3, 0, 0, 0, 101) != NONE || x.name(3, 0, 0, 200, 1) != NONE);
            case 5: return still(x.bar(0, 0, 0) != NONE || x.bar(1, 200, 0) != NONE || x.bar(1, 0, 256) != NONE);
            case 6: return still(x.sheet(49, 3) != NONE || x.sheet(50, 0) != NONE || x.sheet(50, 61) != NONE);
            case 7: return still(x.rules(0) != NONE || x.rules(61) != NONE || x.rules(161) != NONE);
            case 8: return still(x.tie(3, 0, 1) || x.tie(0, 0, 0) || x.tie(0, 0, 3));
            case 9: return still(x.listed(3, 0, 1) || x.listed(0, 9, 1) || x.listed(0, 0, 9));
            case 10: return still(x.lifted(4, 0, 50) || x.lifted(0, 9, 50) || x.lifted(2, 0, 3001));
            case 11: return still(x.house(4) || x.house(-1));
            case 12: return still(x.habit(4, 0) != -10000 || x.habit(0, 2) != -10000);
            case 13: return still(x.judge(9) != NONE || x.line(0, 9, 0) != NONE || x.against(0, 9) != NONE);
            case 14: return still(x.fillings(64) != NONE || x.kept(25) != NONE || x.said(0, 0, 0) != NONE);
            case 15: return still(x.copy(0, 0, 0, 0) != NONE || x.copy(2, 0, 0, 0) != NONE);
            case 16: return still(x.open(2, 0) != NONE || x.since(0, 5) != NONE || x.twice(0, 0) != NONE);
            case 17: return still(x.note(30, 0) || x.note(29, 1) || x.note(41, 0) || x.note(1, 2));
            case 18: return still(x.check(3, 1) != -2 || x.check(0, 8) != -2 || x.check(0, -1) != -2);
            case 19: return still(x.may(3) != NONE || x.odds(0, 9) != NONE || x.stricter(1, 1) != NONE);
            default: return false;
        }
    }

    private static boolean still(boolean taken) {
        due.is("a call that should be refused is taken", taken, false);
        return true;
    }

    private static void refused() {
        due.sentence("A call that is refused (NONE, false) changes nothing but the tape, where it is told.");
        String before = all(told());
        int call = 0;
        for (boolean more = true; more && call < 100; call++) {
            InkBars x = told();
            more = refuse(x, call);
            due.is("all is as before behind refused calls " + call, all(x).equals(before), true);
        }
        due.is("refused calls", call, 21);
        InkBars y = told();
        due.is("a name of no letters", y.name(8, 0, 0, 0, 1), -2);
        due.is("a name alike", Due.name(y, "a", 0, 0, 0, 1), -2);
        due.is("a sheet with a fault, of no tape", y.sheet(50, 1), NONE);
        Due.sheet(y, 50, "a ");
        Due.rules(y, "0(n>0");
        for (int f = 0; f < 3; f++) {
            y.feed(0x7a7a7a7a, 0, 0, 0, 0);
        }
        due.is("what has a fault changes nothing but the tape", all(y).equals(before), true);
    }
}
