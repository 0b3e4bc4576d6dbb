/** Each sentence that names a boundary case of reasons and fillings: promises 15, 16, 18 to 23 and 32. */
public final class EdgesFillingsTest {
    private static final int NONE = InkBars.NONE;
    private static final int MIN = Integer.MIN_VALUE;
    private static final int MAX = Integer.MAX_VALUE;
    private static final String LOWER = "abcdefghijklmnopqrstuvwxyz";
    private static final Due due = new Due("edges of fillings");

    public static void main(String[] args) {
        inkAtFirst();
        inkAsLifted();
        linesOfOneSheet();
        linesOfManyBars();
        linesOfNow();
        linesOfWords();
        grammarLetters();
        grammarWords();
        grammarAhead();
        ties();
        yearsAndSorts();
        againstAlone();
        againstRefused();
        judgeRows();
        judgeAll();
        aFilling();
        worth();
        leftOut();
        fillingsRefused();
        may();
        mayRefused();
        odds();
        oddsRefused();
        given();
        givenAlike();
        givenNone();
        kept();
        keptEachBar();
        keptRefused();
        saidNothingFits();
        saidSure();
        saidThousandths();
        saidLike();
        saidSort();
        saidRefused();
        checkRight();
        checkPlaces();
        checkLacking();
        checkLowest();
        checkRefused();
        due.end();
    }

    private static InkBars withBars(int many, int ink, String... words) {
        InkBars x = Due.withNames(words);
        for (int k = 0; k < many; k++) {
            x.bar(ink, NONE, 255);
        }
        return x;
    }

    /** 24 names of two letters: aa, ba, ca and so on, width 20, weight 1. */
    private static InkBars crowd(int bars, int ink) {
        String[] words = new String[24];
        for (int i = 0; i < 24; i++) {
            words[i] = LOWER.charAt(i) + "a";
        }
        return withBars(bars, ink, words);
    }

    // ---- reasons ----

    private static void inkAtFirst() {
        due.sentence("1 INK: INK less its WIDTH is not in the HABIT of THE HOUSE (one is told; 0 at first).");
        int[] inks = {29, 30, 31, 49, 50, 51};
        int[] want = {1, 0, 0, 0, 0, 1};
        for (int v = 0; v < 6; v++) {
            InkBars x = withBars(1, inks[v], "abc");
            due.is("30 under " + inks[v], x.against(0, 0), want[v]);
            due.is("30 under " + inks[v] + ", judged", x.judge(0), want[v]);
            due.is("30 under " + inks[v] + ", filled", x.fillings(0), 1 - want[v]);
            due.is("house 0 is told again", x.house(0), true);
            due.is("30 under " + inks[v] + " by house 0", x.against(0, 0), want[v]);
        }
        InkBars y = withBars(1, 3000, "aaaaaaaaaaaa");
        due.is("the most ink", y.against(0, 0), 1);
        y.joined(1, 1, -20);
        y.width(1, 1);
        due.is("a width below 0: -208", y.wide(0), -208);
        y.bar(1, NONE, 255);
        due.is("209 more", y.against(1, 0), 1);
        y.lifted(0, 0, 1);
        due.is("209 is the habit", y.against(1, 0), 0);
    }

    private static void inkAsLifted() {
        due.sentence("HABIT of a HOUSE: from the least to the greatest of INK less WIDTH of these NAMES");
        InkBars x = Due.withNames("abc", "a");
        x.lifted(2, 1, 5);
        x.lifted(2, 0, 33);
        for (int ink = 24; ink <= 27; ink++) {
            x.bar(ink, NONE, 255);
        }
        InkBars y = Due.withNames("abc", "a");
        y.lifted(2, 1, 5);
        y.lifted(2, 0, 33);
        for (int ink = 32; ink <= 35; ink++) {
            y.bar(ink, NONE, 255);
        }
        x.house(2);
        y.house(2);
        int[] least = {1, 0, 0, 0};
        int[] greatest = {0, 0, 1, 1};
        for (int k = 0; k < 4; k++) {
            due.is("habit -5 to 3: ink " + (24 + k), x.against(k, 0), least[k]);
            due.is("habit -5 to 3: ink " + (32 + k), y.against(k, 0), greatest[k]);
        }
        x.width(2, 11);
        due.is("abc is 31 now: 33 is 2 more", x.habit(2, 1), 2);
        due.is("and 25 is 6 less", x.against(1, 0), 1);
        due.is("26 is 5 less", x.against(2, 0), 0);
    }

    private static void linesOfOneSheet() {
        due.sentence("2 LINES: by these NAMES some SHEET, SET, breaks otherwise than it does.");
        for (int other = 0; other < 6; other++) {
            InkBars x = withBars(1, 40, "abc", "abcd");
            for (int s = 0; s < 6; s++) {
                Due.sheet(x, s == other ? 50 : 60, "b 0");
            }
            due.is("b abc: 50", x.judge(0), 0);
            due.is("b abcd: 60, in sheet " + other + " alone", x.judge(1), 2);
            due.is("so one may", x.may(0), 1);
            due.is("not of lines alone", x.against(0, 1), 0);
        }
        InkBars y = withBars(1, 40, "abc", "abcd");
        Due.sheet(y, 50, "b/0");
        due.is("b abc: 50 stands", y.judge(0), 2);
        due.is("b abcd: 60 breaks as it does", y.judge(1), 0);
        Due.sheet(y, 500, "b/b");
        due.is("a sheet without bars", y.judge(1), 2);
        due.is("none may", y.may(0), 0);
        InkBars z = withBars(1, 40, "abc", "abcd");
        Due.sheet(z, 500, "0");
        due.is("one token breaks nowhere", z.judge(1), 0);
        for (int k = 0; k < 4; k++) {
            InkBars v = withBars(4, 40, "abc", "abcd");
            Due.sheet(v, 80, "b 0 b/b 1 b/b 2 b/b 3 b".replace("" + k, "b bb"));
            Due.sheet(v, 50, "b " + k);
            for (int q = 0; q < 4; q++) {
                due.is("may of bar " + q + ", " + k + " behind b in 50", v.may(q), q == k ? 1 : 3);
            }
            Due.sheet(v, 59, k + "/b");
            due.is("but " + k + " b is wider than 59", v.may(k), 0);
            due.is("so it is with abcd under all", v.judge(1 + 24 + 576 + 13824), 2);
            due.is("without lines", v.fillings(2), 16);
        }
    }

    /** Names of widths 10 to 60 and three bars that all of them may be under, but for what a sheet says. */
    private static InkBars narrowAndWide(int wide, String text) {
        InkBars x = new InkBars();
        for (int i = 0; i < 6; i++) {
            Due.name(x, ("" + LOWER.charAt(25 - i)).repeat(i < 3 ? 2 * i + 1 : 12 - 2 * i), 0, 0, 0, 1);
        }
        for (int k = 0; k < 3; k++) {
            x.bar(60 + 5 * k, NONE, 255);
        }
        x.lifted(0, 0, 1);
        x.lifted(0, 0, 3000);
        x.width(0, 7);
        due.is("a sheet of " + text, Due.sheet(x, wide, text), 0);
        return x;
    }

    private static int rowOf(int r) {
        return r % 6 + 24 * (r / 6 % 6) + 576 * (r / 36);
    }

    private static void linesOfManyBars() {
        due.sentence("SET by NAMES for all BARS: a TOKEN stands behind the one before in its line, THE BLANK between,");
        String[] texts = {"0 1 2", "0 1/2", "0/1 2", "2 b 1 0", "1 1/0 2 0", "b/0 b 2/1 bb 0", "0 0 0/1 1/2", "2/2 2 1/1 0"};
        for (String text : texts) {
            for (int wide = 50; wide <= 230; wide += 6) {
                InkBars x = narrowAndWide(wide, text);
                String of = " of " + text + " in " + wide;
                int stand = 0;
                int[] may = new int[3];
                for (int r = 0; r < 216; r++) {
                    if (x.judge(rowOf(r)) == 0) {
                        stand++;
                        may[0] |= 1 << r % 6;
                        may[1] |= 1 << r / 6 % 6;
                        may[2] |= 1 << r / 36;
                    }
                }
                due.is("fillings" + of, x.fillings(0), stand);
                due.is("without lines" + of, x.fillings(2), 216);
                due.is("odds" + of, x.odds(0, NONE), stand);
                for (int k = 0; k < 3; k++) {
                    due.is("may(" + k + ")" + of, x.may(k), may[k]);
                }
            }
        }
        for (int wide = 80; wide <= 120; wide += 10) {
            for (int tie = -1; tie <= 2; tie++) {
                keptByRows(tie, wide, "2 b 1 0");
                keptByRows(tie, wide, "1/0 2 0");
                keptByRows(tie, wide, "0 1/2 1");
            }
        }
    }

    /** Holds KEPT against what is judged of all rows; the habit of now is the widest, so that INK is asked here. */
    private static void keptByRows(int tie, int wide, String text) {
        InkBars x = narrowAndWide(wide, text);
        due.is("tie " + tie, x.tie(tie, 0, 2), tie >= 0);
        int[] want = new int[25];
        java.util.Arrays.fill(want, NONE);
        boolean[] stands = new boolean[216];
        for (int r = 0; r < 216; r++) {
            stands[r] = x.judge(rowOf(r)) == 0;
        }
        for (int h = 200; h >= 0; h--) {
            int[] may = new int[3];
            for (int r = 0; r < 216; r++) {
                int[] i = {r % 6, r / 6 % 6, r / 36};
                boolean fits = stands[r];
                for (int k = 0; k < 3; k++) {
                    int more = 60 + 5 * k - x.wide(i[k]);
                    fits = fits && more >= 0 && more <= h;
                }
                for (int k = 0; k < 3 && fits; k++) {
                    may[k] |= 1 << i[k];
                }
            }
            for (int m = 1; m <= 24; m++) {
                boolean all = true;
                for (int bits : may) {
                    all = all && Integer.bitCount(bits) >= m;
                }
                want[m] = all ? h : want[m];
            }
        }
        for (int m = 1; m <= 7; m++) {
            due.is("kept(" + m + ") of " + text + " in " + wide + ", tie " + tie, x.kept(m), want[m]);
        }
    }

    private static void linesOfNow() {
        due.sentence("by these NAMES some SHEET, SET, breaks otherwise than it does.");
        InkBars x = withBars(1, 30, "ab", "abc");
        Due.sheet(x, 60, "bb 0");
        due.is("both stand", x.may(0), 3);
        x.joined(1, 2, 1);
        due.is("abc is 31 wide now: more than its ink", x.may(0), 1);
        x.joined(1, 2, -1);
        due.is("29", x.may(0), 3);
        x.width(0, 12);
        due.is("20 12 29 is wider than 60", x.may(0), 1);
        x.width(0, 11);
        due.is("20 11 29 is not", x.may(0), 3);
        x.width(0, 12);
        due.is("20 12 29 again", x.may(0), 1);
        Due.name(x, "xx", 0, 0, 0, 1);
        due.is("a name told since", x.may(0), 5);
        x.bar(30, NONE, 255);
        due.is("a bar told since: all that fits", x.may(1), 7);
        Due.sheet(x, 90, "b 1/b 0 0");
        due.is("a sheet told since: 10 12 30 12 10 is not wider than 90", x.may(1), 0);
        due.is("without lines", x.fillings(2), 9);
        x.lifted(0, 0, 3000);
        due.is("a habit of now", x.fillings(2), 0);
        x.house(1);
        due.is("a house of now", x.fillings(2), 9);
        InkBars y = withBars(1, 30, "ab", "abc");
        due.is("both", y.may(0), 3);
        y.lifted(0, 1, 30);
        due.is("a habit told since", y.may(0), 2);
        y.lifted(0, 0, 30);
        due.is("and a second time", y.may(0), 3);
        y.house(2);
        y.lifted(2, 0, 30);
        due.is("a house told since", y.may(0), 1);
    }

    private static void linesOfWords() {
        due.sentence("2 LINES: by these NAMES some SHEET, SET, breaks otherwise than it does.");
        int[] wides = {59, 60, 61};
        for (int wide : wides) {
            for (int broken = 0; broken <= 1; broken++) {
                InkBars x = withBars(1, 30, "ab", "abc");
                Due.sheet(x, wide, broken == 1 ? "bbb/dd" : "bbb dd");
                boolean so = wide >= 60 == (broken == 0);
                String of = " in " + wide + ", broken " + broken;
                due.is("30 10 20" + of, x.judge(0), so ? 0 : 2);
                due.is("fillings" + of, x.fillings(0), so ? 2 : 0);
                due.is("may" + of, x.may(0), so ? 3 : 0);
                due.is("odds" + of, x.odds(0, NONE), so ? 2 : 0);
                due.is("kept" + of, x.kept(1), so ? 0 : NONE);
                due.is("given away" + of, x.given(), so ? 1 : 2);
                x.width(4, broken == 0 ? 9 : 11);
                due.is("of other widths" + of, x.fillings(0), broken == 0 || wide < 62 ? 2 : 0);
                x.width(4, broken == 0 ? 20 : 1);
                due.is("of others again" + of, x.may(0), 0);
            }
        }
        InkBars y = withBars(1, 20, "ab", "cd");
        Due.sheet(y, 50, "bbbbb/bbbbb/bbbbb/0/bbbbb");
        Due.sheet(y, 90, "b 0");
        due.is("a shorter sheet behind a longer one", y.judge(0), 0);
        due.is("it fits", y.fillings(0), 2);
    }

    private static void grammarLetters() {
        due.sentence("4 GRAMMAR: right ahead of the BAR (in a SHEET; over a break, too) the TOKEN is the WORD a, and the NAME");
        InkBars x = new InkBars();
        for (int i = 0; i < 24; i++) {
            Due.name(x, LOWER.charAt(i) + "x", 0, 0, 0, 1);
        }
        for (int k = 0; k < 4; k++) {
            x.bar(20, NONE, 255);
        }
        Due.sheet(x, 500, "a 0 an 1 a/2 an/3");
        for (int i = 0; i < 24; i++) {
            boolean vowel = "aeiou".indexOf(LOWER.charAt(i)) >= 0;
            String of = ": " + LOWER.charAt(i);
            due.is("behind a" + of, x.against(0, i), vowel ? 4 : 0);
            due.is("behind an" + of, x.against(1, i), vowel ? 0 : 4);
            due.is("behind a, over a break" + of, x.against(2, i), vowel ? 4 : 0);
            due.is("behind an, over a break" + of, x.against(3, i), vowel ? 0 : 4);
        }
        InkBars y = withBars(2, 20, "yx", "zx");
        Due.sheet(y, 500, "a 0 an 1");
        due.is("y and z behind a", y.against(0, 0) | y.against(0, 1), 0);
        due.is("y and z behind an", y.against(1, 0) & y.against(1, 1), 4);
    }

    private static void grammarWords() {
        due.sentence("or it is the WORD an, and it does not.");
        String[] words = {"aa", "ann", "anaconda", "b", "n", "na", "and", "am", "bn", "ab", "e", "en", "aan"};
        for (String word : words) {
            InkBars x = withBars(1, 20, "ox", "by");
            Due.sheet(x, 500, "an a " + word + " 0");
            due.is("ox behind " + word, x.against(0, 0), 0);
            due.is("by behind " + word, x.against(0, 1), 0);
        }
        InkBars x = withBars(1, 20, "ox", "by");
        Due.sheet(x, 500, "a 0 an 0");
        due.is("both: ox", x.against(0, 0), 4);
        due.is("both: by", x.against(0, 1), 4);
        due.is("without grammar", x.fillings(4), 2);
    }

    private static void grammarAhead() {
        due.sentence("(in a SHEET; over a break, too)");
        InkBars x = withBars(4, 20, "ox", "by");
        Due.sheet(x, 500, "a an 0 1 a");
        Due.sheet(x, 500, "2 a b 3");
        due.is("right behind an, not a: by", x.against(0, 1), 4);
        due.is("right behind an, not a: ox", x.against(0, 0), 0);
        due.is("behind a bar: ox", x.against(1, 0), 0);
        due.is("behind a bar: by", x.against(1, 1), 0);
        due.is("first of a sheet, a is last of the one before", x.against(2, 0), 0);
        due.is("one token between", x.against(3, 0), 0);
        due.is("a behind the bar", x.against(1, 0), 0);
        for (int s = 2; s < 6; s++) {
            Due.sheet(x, 500, s < 5 ? "b 1" : "b/a/1");
        }
        due.is("in the last sheet, over a break: ox", x.against(1, 0), 4);
        due.is("in the last sheet, over a break: by", x.against(1, 1), 0);
        due.is("of the others as before", x.against(2, 0), 0);
        String[] articles = {"a", "an"};
        for (String article : articles) {
            InkBars y = withBars(1, 20, "ox", "by");
            Due.sheet(y, 500, "b ".repeat(23) + article);
            Due.sheet(y, 500, "0 b");
            due.is(article + " is the 24th token of the sheet before: ox", y.against(0, 0), 0);
            due.is(article + " is the 24th token of the sheet before: by", y.against(0, 1), 0);
            Due.sheet(y, 500, "b ".repeat(22) + article + " 0");
            due.is(article + " is the 23rd, the bar the 24th", y.against(0, 0) | y.against(0, 1), 4);
        }
    }

    private static void ties() {
        due.sentence("16 TIES, LISTED.");
        InkBars x = withBars(2, 20, "ox", "by");
        due.is("no tie", x.judge(1), 0);
        x.tie(2, 0, 1);
        due.is("by is ahead", x.judge(1), 0);
        due.is("ox is not", x.judge(24), 16);
        x.listed(0, NONE, 0);
        due.is("listed ahead of ox: by", x.judge(1), 0);
        due.is("listed ahead of ox: ox, alone", x.against(0, 0), 16);
        due.is("ties are not alone", x.against(1, 1), 0);
        x.tie(0, 1, 0);
        due.is("a second tie", x.judge(1), 16);
        due.is("without both", x.fillings(16), 4);
        due.is("with them", x.fillings(0), 0);
    }

    private static void yearsAndSorts() {
        due.sentence("32 YEAR (told, and not one of the NAME's), SORTS (that of the NAME is not among them).");
        InkBars x = new InkBars();
        Due.name(x, "ab", 3, 10, 20, 1);
        int[] years = {9, 10, 20, 21};
        for (int k = 0; k < 4; k++) {
            x.bar(20, years[k], 8);
        }
        for (int k = 0; k < 4; k++) {
            due.is("year " + years[k], x.against(k, 0), k == 0 || k == 3 ? 32 : 0);
        }
        InkBars y = new InkBars();
        Due.name(y, "ab", 3, 10, 20, 1);
        y.bar(20, NONE, 8);
        y.bar(20, NONE, 247);
        y.bar(20, 15, 0);
        y.bar(20, 21, 247);
        due.is("no year told", y.against(0, 0), 0);
        due.is("all other sorts", y.against(1, 0), 32);
        due.is("no sorts", y.against(2, 0), 32);
        due.is("neither", y.against(3, 0), 32);
        due.is("judged together", y.judge(0), 32);
        due.is("without it", y.fillings(32), 1);
    }

    // ---- promises 15, 16 ----

    private static void againstAlone() {
        due.sentence("REASONS (bits) against NAME i under BAR k alone: 1, 4, 8, 32, and 16 by LISTED");
        InkBars x = withBars(2, 20, "ox", "by", "abcdef");
        Due.sheet(x, 50, "a 0 b");
        Due.rules(x, "0(n=2&i=1)");
        x.listed(0, NONE, 0);
        x.tie(0, 0, 1);
        due.is("ox: grammar, rules, listed", x.against(0, 0), 28);
        due.is("by: none, though its line and its tie are so", x.against(0, 1), 0);
        due.is("abcdef: ink, grammar, rules", x.against(0, 2), 13);
        due.is("judged, lines and ties too", x.judge(1), 18);
        x.bar(20, 1, 254);
        x.listed(2, 2, 0);
        due.is("abcdef: ink, listed, sorts", x.against(2, 2), 49);
    }

    private static void againstRefused() {
        due.sentence("and 16 by LISTED; NONE: no such ones.");
        InkBars x = new InkBars();
        due.is("of an empty object", x.against(0, 0), NONE);
        Due.name(x, "ox", 0, 0, 0, 1);
        due.is("no bar", x.against(0, 0), NONE);
        x.bar(20, NONE, 255);
        int[] none = {-1, 1, 4, 23, 24, MIN, MAX};
        for (int v : none) {
            due.is("against(" + v + ", 0)", x.against(v, 0), NONE);
            due.is("against(0, " + v + ")", x.against(0, v), NONE);
        }
        due.is("against(0, 0)", x.against(0, 0), 0);
        InkBars y = crowd(4, 20);
        due.is("the last of all", y.against(3, 23), 0);
        due.is("a bar behind it", y.against(4, 23), NONE);
        due.is("a name behind it", y.against(3, 24), NONE);
        InkBars z = withBars(1, 20);
        due.is("no name", z.against(0, 0), NONE);
    }

    private static void judgeRows() {
        due.sentence("REASONS (bits) against a row of NAMES, told as digits of 24, that of BAR 0 in the lowest place; NONE: no such ones");
        InkBars x = crowd(4, 20);
        Due.rules(x, "0(i=1);1(i=2);2(i=3);3(i=4)");
        int row = 1 + 24 * 2 + 576 * 3 + 13824 * 4;
        due.is("1 2 3 4", x.judge(row), 0);
        due.is("0 2 3 4", x.judge(row - 1), 8);
        due.is("1 1 3 4", x.judge(row - 24), 8);
        due.is("1 2 2 4", x.judge(row - 576), 8);
        due.is("1 2 3 3", x.judge(row - 13824), 8);
        due.is("the greatest row", x.judge(331775), 8);
        int[] none = {331776, 331777, 24 * 331776, -1, -24, -331776, MIN, MAX};
        for (int v : none) {
            due.is("judge(" + v + ")", x.judge(v), NONE);
        }
        InkBars y = withBars(1, 20, "ox", "by");
        due.is("one bar: 1", y.judge(1), 0);
        int[] noName = {2, 23, 24, 25, 26, 576, -1, -24};
        for (int v : noName) {
            due.is("one bar: " + v, y.judge(v), NONE);
        }
        due.sentence("that of BAR 0 in the lowest place; NONE: no such ones, no BARS.");
        InkBars z = Due.withNames("ox");
        due.is("no bars", z.judge(0), NONE);
        due.is("no bars, 1", z.judge(1), NONE);
        z = withBars(1, 20);
        due.is("no names", z.judge(0), NONE);
    }

    private static void judgeAll() {
        due.sentence("REASONS for which a NAME is not under a BAR, or NAMES not under all:");
        for (int reasons = 0; reasons < 64; reasons++) {
            InkBars x = new InkBars();
            Due.name(x, "ox", 0, 0, 0, 1);
            x.bar((reasons & 1) != 0 ? 41 : 40, (reasons & 32) != 0 ? 1 : 0, 255);
            Due.sheet(x, 500, ((reasons & 4) != 0 ? "a" : "b") + ((reasons & 2) != 0 ? "/0" : " 0"));
            Due.rules(x, (reasons & 8) != 0 ? "0(n=3)" : "0(n=2)");
            if ((reasons & 16) != 0) {
                x.listed(0, 0, NONE);
            }
            due.is("reasons " + reasons, x.judge(0), reasons);
            due.is("alone, but for lines", x.against(0, 0), reasons & ~2);
            for (int without = 0; without < 64; without++) {
                due.is(reasons + " without " + without, x.fillings(without), (reasons & ~without) == 0 ? 1 : 0);
            }
        }
    }

    // ---- promise 18 ----

    private static void aFilling() {
        due.sentence("A FILLING: a NAME for each BAR, against which there is no REASON.");
        InkBars x = withBars(1, 20, "ox", "by");
        due.is("one bar", x.fillings(0), 2);
        x.bar(20, NONE, 255);
        due.is("two: one name may be under both", x.fillings(0), 4);
        x.bar(1, NONE, 255);
        due.is("nothing fits under the third", x.fillings(0), 0);
        due.is("so none of the others may", x.may(0), 0);
        InkBars y = withBars(4, 20, "ox");
        due.is("one name, four bars", y.fillings(0), 1);
        InkBars z = withBars(1, 20);
        due.is("no names", z.fillings(0), 0);
        due.is("no names, no reasons", z.fillings(63), 0);
        due.is("the most", crowd(4, 20).fillings(0), 24 * 24 * 24 * 24);
    }

    private static void worth() {
        due.sentence("Its WORTH: WEIGHTS of NAMES under BARS, times one another.");
        InkBars x = new InkBars();
        Due.name(x, "ab", 0, 0, 0, 1);
        Due.name(x, "cd", 0, 0, 0, 100);
        x.bar(20, NONE, 255);
        due.is("one bar", x.odds(0, NONE), 101);
        for (int k = 1; k < 4; k++) {
            x.bar(20, NONE, 255);
        }
        due.is("101 to the fourth", x.odds(0, NONE), 101L * 101 * 101 * 101);
        for (int k = 0; k < 3; k++) {
            x.tie(0, k, k + 1);
        }
        due.is("1 and 100 to the fourth", x.odds(0, NONE), 100000001);
        due.is("100 to the fourth", x.odds(3, 1), 100000000);
        due.is("1", x.odds(3, 0), 1);
    }

    private static void leftOut() {
        due.sentence("Some REASONS (bits) may be left out of account.");
        InkBars x = new InkBars();
        Due.name(x, "ab", 0, 0, 0, 1);
        Due.name(x, "cd", 0, 1, 1, 1);
        Due.name(x, "cdcdcd", 0, 0, 0, 1);
        Due.name(x, "dc", 0, 0, 0, 1);
        Due.name(x, "dd", 0, 0, 0, 1);
        x.bar(20, 0, 255);
        Due.rules(x, "0(i<4)");
        Due.sheet(x, 500, "a 0");
        x.listed(0, NONE, 3);
        due.is("none fits", x.fillings(0), 0);
        due.is("without ink: cdcdcd", x.fillings(1), 1);
        due.is("without lines", x.fillings(2), 0);
        due.is("without grammar: ab", x.fillings(4), 1);
        due.is("without rules: dd is behind dc", x.fillings(8), 0);
        due.is("without lists: dc", x.fillings(16), 1);
        due.is("without years: cd", x.fillings(32), 1);
        due.is("without rules, lists: dc, dd", x.fillings(24), 2);
        due.is("without all but rules", x.fillings(55), 4);
        due.is("without all", x.fillings(63), 5);
        due.is("and with all again", x.fillings(0), 0);
        due.is("may is of all", x.may(0), 0);
    }

    private static void fillingsRefused() {
        due.sentence("How many FILLINGS, REASONS (bits, 0 to 63) left out of account; NONE: no such ones, no BARS.");
        InkBars x = Due.withNames("ox");
        due.is("no bars", x.fillings(0), NONE);
        due.is("no bars, 63", x.fillings(63), NONE);
        x.bar(20, NONE, 255);
        int[] none = {-1, 64, 65, 127, 128, MIN, MAX};
        for (int without : none) {
            due.is("fillings(" + without + ")", x.fillings(without), NONE);
        }
        for (int without = 0; without <= 63; without++) {
            due.is("fillings(" + without + ")", x.fillings(without), 1);
        }
    }

    // ---- promises 19, 20 ----

    private static void may() {
        due.sentence("MAY of a BAR: NAMES that it has in some FILLING; SURE: if that is one.");
        InkBars x = withBars(2, 20, "ab", "cd", "ef");
        due.is("all", x.may(0), 7);
        x.tie(2, 0, 1);
        due.is("the last is ahead of none", x.may(0), 3);
        due.is("the first is behind none", x.may(1), 6);
        x.listed(1, NONE, 2);
        due.is("one", x.may(0), 1);
        due.is("the other one", x.may(1), 2);
        due.is("sure", x.said(0, 1000, 0), 1);
        due.is("the name fits alone, but not with another", x.against(0, 1), 0);
        due.sentence("MAY of BAR k, as bits; NONE: no such one.");
        InkBars y = crowd(4, 20);
        due.is("all 24", y.may(3), 0xffffff);
        Due.rules(y, "3(i=23)");
        due.is("the last one", y.may(3), 1 << 23);
        Due.rules(y, "3(i=0)");
        due.is("the first one", y.may(3), 1);
        due.is("of another bar", y.may(2), 0xffffff);
        Due.rules(y, "3(i<0)");
        due.is("none", y.may(3), 0);
        due.is("so none of another bar", y.may(2), 0);
    }

    private static void mayRefused() {
        due.sentence("`int may(int k)`: MAY of BAR k, as bits; NONE: no such one.");
        InkBars x = Due.withNames("ox");
        due.is("no bar", x.may(0), NONE);
        for (int bars = 1; bars <= 4; bars++) {
            x.bar(20, NONE, 255);
            int[] none = {-1, bars, bars + 1, 24, MIN, MAX};
            for (int k : none) {
                due.is("may(" + k + ") of " + bars, x.may(k), NONE);
            }
            due.is("may of the last of " + bars, x.may(bars - 1), 1);
        }
        InkBars y = withBars(1, 20);
        due.is("no names", y.may(0), 0);
    }

    private static void odds() {
        due.sentence("ODDS of a NAME: WORTH of FILLINGS in which the BAR has it, together; ALL: of all.");
        InkBars x = new InkBars();
        Due.name(x, "ab", 0, 0, 0, 2);
        Due.name(x, "cd", 0, 0, 0, 3);
        Due.name(x, "ef", 0, 0, 0, 5);
        Due.name(x, "ghi", 0, 0, 0, 100);
        x.bar(20, NONE, 255);
        x.bar(20, NONE, 255);
        Due.rules(x, "0(n=2);1(n=2)");
        x.tie(2, 0, 1);
        // ab cd 6, ab ef 10, cd ef 15.
        due.is("all", x.odds(0, NONE), 31);
        due.is("all of bar 1", x.odds(1, NONE), 31);
        long[][] want = {{16, 15, 0, 0}, {0, 6, 25, 0}};
        for (int k = 0; k < 2; k++) {
            for (int i = 0; i < 4; i++) {
                due.is("odds(" + k + ", " + i + ")", x.odds(k, i), want[k][i]);
            }
        }
        x.bar(1, NONE, 255);
        due.is("nothing fits: all", x.odds(0, NONE), 0);
        due.is("nothing fits: ab", x.odds(0, 0), 0);
        due.is("nothing fits under it: all", x.odds(2, NONE), 0);
    }

    private static void oddsRefused() {
        due.sentence("ODDS of NAME i under BAR k (i NONE: ALL); NONE: no such ones.");
        InkBars x = new InkBars();
        due.is("of an empty object", x.odds(0, NONE), NONE);
        Due.name(x, "ox", 0, 0, 0, 7);
        due.is("no bar", x.odds(0, 0), NONE);
        due.is("no bar, all", x.odds(0, NONE), NONE);
        x.bar(20, NONE, 255);
        int[] noName = {-2, 1, 23, 24, MIN, MAX};
        for (int i : noName) {
            due.is("odds(0, " + i + ")", x.odds(0, i), NONE);
        }
        int[] noBar = {-1, 1, 3, 4, MIN, MAX};
        for (int k : noBar) {
            due.is("odds(" + k + ", 0)", x.odds(k, 0), NONE);
            due.is("odds(" + k + ", NONE)", x.odds(k, NONE), NONE);
        }
        due.is("odds(0, 0)", x.odds(0, 0), 7);
        due.is("odds(0, NONE)", x.odds(0, NONE), 7);
        InkBars y = withBars(1, 20);
        due.is("no names: all", y.odds(0, NONE), 0);
        due.is("no names: name 0", y.odds(0, 0), NONE);
        InkBars z = new InkBars();
        for (int i = 0; i < 24; i++) {
            Due.name(z, LOWER.charAt(i) + "a", 0, 0, 0, 100);
        }
        for (int k = 0; k < 4; k++) {
            z.bar(20, NONE, 255);
        }
        due.is("beyond 32 bits: all", z.odds(0, NONE), 33177600000000L);
        due.is("beyond 32 bits: one", z.odds(3, 23), 1382400000000L);
    }

    // ---- promise 21 ----

    private static void given() {
        due.sentence("GIVEN AWAY by the REASON without which (it alone) most FILLINGS there are");
        int[] reasons = {1, 4, 8, 16, 32};
        for (int reason : reasons) {
            InkBars x = new InkBars();
            Due.name(x, "bb", 0, 0, 0, 1);
            String word = reason == 1 ? "bcccc" : reason == 4 ? "ab" : reason == 16 ? "zb" : "bc";
            Due.name(x, word, reason == 32 ? 1 : 0, 0, 0, 1);
            x.bar(20, NONE, 1);
            Due.sheet(x, 500, "a 0");
            Due.rules(x, reason == 8 ? "0(i=0)" : "0(i<9)");
            if (reason == 16) {
                x.listed(0, NONE, 1);
            }
            due.is("one fits", x.fillings(0), 1);
            due.is("given away by " + reason, x.given(), reason);
        }
        InkBars y = withBars(1, 20, "bb", "bc");
        y.width(3, 9);
        Due.sheet(y, 50, "bbb/0");
        due.is("30 10 20 and 30 10 19 break in 50: both", y.may(0), 3);
        due.is("all alike", y.given(), 1);
        Due.sheet(y, 59, "bbb 0");
        due.is("30 10 19 alone stands in 59", y.may(0), 2);
        due.is("given away by 2", y.given(), 2);
    }

    private static void givenAlike() {
        due.sentence("of like ones the lowest.");
        int[] reasons = {1, 4, 16, 32};
        for (int one : reasons) {
            for (int other : reasons) {
                InkBars x = new InkBars();
                Due.name(x, "bb", 0, 0, 0, 1);
                int i = 1;
                for (int by : new int[] {one, other}) {
                    String word = by == 1 ? "bc" + LOWER.charAt(i) + "ccc" : by == 4 ? "a" + LOWER.charAt(i)
                        : by == 16 ? "z" + LOWER.charAt(i) : "b" + LOWER.charAt(i + 5);
                    Due.name(x, word, by == 32 ? 1 : 0, 0, 0, 1);
                    i++;
                }
                Due.name(x, "k", 1, 0, 0, 1);
                x.bar(20, NONE, 1);
                Due.sheet(x, 500, "a 0");
                x.listed(0, NONE, 3);
                due.is("bb alone", x.may(0), 1);
                due.is("one by " + one + ", one by " + other, x.given(), Math.min(one, other));
            }
        }
        InkBars y = withBars(1, 20, "bb");
        due.is("all alike", y.given(), 1);
        Due.rules(y, "0(n=3)");
        y.listed(0, 0, NONE);
        due.is("no one alone", y.given(), 1);
        InkBars z = withBars(1, 20);
        due.is("no names", z.given(), 1);
    }

    private static void givenNone() {
        due.sentence("GIVEN AWAY by which REASON (a bit); NONE: no BARS.");
        InkBars x = Due.withNames("bb");
        due.is("no bars", x.given(), NONE);
        Due.sheet(x, 500, "b/b");
        due.is("no bars, a sheet that breaks otherwise", x.given(), NONE);
        x.bar(20, NONE, 255);
        due.is("a bar", x.given(), 2);
    }

    // ---- promise 22 ----

    private static void kept() {
        due.sentence("KEPT with a number m (1 to 24): the least H (0 to 200) so that, were the HABIT 0 to H,");
        InkBars x = withBars(1, 240, "abcdefghijkl", "abcd", "a", "abcde");
        x.width(1, 40);
        // a is 40: 200 more; abcd is 70, abcde 80, the longest 150.
        due.is("one", x.kept(1), 90);
        due.is("two", x.kept(2), 160);
        due.is("three", x.kept(3), 170);
        due.is("four: the greatest H", x.kept(4), 200);
        due.is("five: there are but four", x.kept(5), NONE);
        x.width(1, 39);
        due.is("four: a is 201 less", x.kept(4), NONE);
        due.is("three still", x.kept(3), 171);
        InkBars y = withBars(1, 20, "ab", "abc");
        due.is("0 is the least", y.kept(1), 0);
        due.is("a name wider than the ink never fits", y.kept(2), NONE);
        due.is("the habit is as it was", y.habit(0, 1), 20);
        InkBars z = crowd(4, 45);
        for (int m = 1; m <= 24; m++) {
            due.is("25 more than all: " + m, z.kept(m), 25);
        }
        due.is("though none may now", z.may(0), 0);
        due.is("25 are never there", z.kept(25), NONE);
    }

    private static void keptEachBar() {
        due.sentence("each BAR would have m NAMES or more that it may.");
        InkBars x = withBars(1, 30, "ab", "cd", "efg");
        due.is("one bar: 1", x.kept(1), 0);
        due.is("one bar: 2", x.kept(2), 10);
        due.is("one bar: 3", x.kept(3), 10);
        x.bar(50, NONE, 255);
        due.is("the second: 1", x.kept(1), 20);
        due.is("the second: 2", x.kept(2), 30);
        Due.rules(x, "1(n=2)");
        due.is("the second has two", x.kept(3), NONE);
        due.is("with the first: 1", x.kept(1), 30);
        x.tie(2, 0, 1);
        due.is("cd alone is behind one that may, ab", x.kept(2), NONE);
        due.is("ab cd", x.kept(1), 30);
        InkBars y = withBars(2, 20, "ab", "cd");
        Due.sheet(y, 500, "0/1");
        due.is("lines are kept in account", y.kept(1), NONE);
    }

    private static void keptRefused() {
        due.sentence("KEPT with m; NONE: there is none, no such m, no BARS.");
        InkBars x = crowd(0, 20);
        due.is("no bars", x.kept(1), NONE);
        x.bar(20, NONE, 255);
        due.is("kept(1)", x.kept(1), 0);
        due.is("kept(24)", x.kept(24), 0);
        int[] none = {0, 25, -1, 200, MIN, MAX};
        for (int m : none) {
            due.is("kept(" + m + ")", x.kept(m), NONE);
        }
        x.lifted(0, 0, 3000);
        due.is("whatever the habit is", x.kept(24), 0);
        InkBars y = withBars(1, 20);
        due.is("no names", y.kept(1), NONE);
    }

    // ---- promise 23 ----

    private static void saidNothingFits() {
        due.sentence("SAID of a BAR: 0 nothing fits; 1 SURE;");
        InkBars x = withBars(1, 20, "abc", "def");
        due.is("which", x.said(0, 1, 0), 0);
        due.is("no name of it", x.said(0, 1, 1), NONE);
        due.is("1000: which", x.said(0, 1000, 0), 0);
        InkBars y = withBars(1, 20);
        due.is("no names", y.said(0, 1000, 0), 0);
        due.is("no names: which", y.said(0, 1000, 1), NONE);
        InkBars z = withBars(2, 20, "ab");
        z.tie(1, 0, 1);
        due.is("it fits alone, but not with another", z.said(0, 1, 0), 0);
    }

    private static void saidSure() {
        due.sentence("1 SURE; 2 not so");
        InkBars x = new InkBars();
        Due.name(x, "ab", 3, 0, 0, 1);
        Due.name(x, "cd", 4, 0, 0, 100);
        x.bar(20, NONE, 8);
        due.is("one: which", x.said(0, 1000, 0), 1);
        due.is("one: the name", x.said(0, 1000, 1), 0);
        due.is("one, with 1", x.said(0, 1, 0), 1);
        x.bar(20, NONE, 16);
        due.is("the other bar: the name", x.said(1, 1, 1), 1);
        x.bar(20, NONE, 255);
        due.is("two", x.said(2, 1000, 0), 4);
    }

    private static void saidThousandths() {
        due.sentence("2 not so, but a NAME has told thousandths of ALL or more");
        InkBars x = new InkBars();
        Due.name(x, "ab", 0, 0, 0, 1);
        Due.name(x, "cd", 1, 0, 0, 99);
        x.bar(20, NONE, 255);
        due.is("990 of 1000: just so", x.said(0, 990, 0), 2);
        due.is("990: cd", x.said(0, 990, 1), 1);
        due.is("991: not", x.said(0, 991, 0), 4);
        due.is("1000: not", x.said(0, 1000, 0), 4);
        due.is("1: cd, not ab", x.said(0, 1, 1), 1);
        InkBars y = new InkBars();
        Due.name(y, "ab", 0, 0, 0, 2);
        Due.name(y, "cd", 1, 0, 0, 1);
        y.bar(20, NONE, 255);
        due.is("two thirds: 666", y.said(0, 666, 0), 2);
        due.is("two thirds: 667", y.said(0, 667, 0), 4);
        // Beyond 32 bits: 24 names of weight 100 under four bars, one bar with two of them.
        InkBars z = new InkBars();
        for (int i = 0; i < 24; i++) {
            Due.name(z, LOWER.charAt(i) + "a", i % 2, 0, 0, 100);
        }
        for (int k = 0; k < 4; k++) {
            z.bar(20, NONE, 255);
        }
        due.is("a 24th: 41", z.said(3, 41, 0), 2);
        due.is("a 24th: 42", z.said(3, 42, 0), 4);
        Due.rules(z, "0(i<2)");
        due.is("half: 500", z.said(0, 500, 0), 2);
        due.is("half: 501", z.said(0, 501, 0), 4);
    }

    private static void saidLike() {
        due.sentence("(that of greatest ODDS; of like ones the lowest)");
        InkBars x = new InkBars();
        int[] weights = {4, 5, 7, 7, 6, 7};
        for (int i = 0; i < 6; i++) {
            Due.name(x, LOWER.charAt(10 - i) + "a", i, 0, 0, weights[i]);
        }
        x.bar(20, NONE, 255);
        due.is("the third", x.said(0, 194, 1), 2);
        due.is("7 of 36 is 194", x.said(0, 194, 0), 2);
        due.is("but not 195", x.said(0, 195, 0), 4);
        Due.rules(x, "0(!i=2)");
        due.is("the fourth", x.said(0, 1, 1), 3);
        Due.rules(x, "0(i<2|i=5)");
        due.is("the last", x.said(0, 1, 1), 5);
        Due.rules(x, "0(i<2)");
        due.is("the second", x.said(0, 1, 1), 1);
    }

    private static void saidSort() {
        due.sentence("3 not so, but all that it may is of one SORT; 4 nothing can be said.");
        for (int sort = 0; sort <= 7; sort++) {
            InkBars x = new InkBars();
            Due.name(x, "ab", sort, 0, 0, 1);
            Due.name(x, "cd", sort, 0, 0, 1);
            Due.name(x, "ef", (sort + 1) % 8, 0, 0, 1);
            x.bar(20, NONE, 1 << sort);
            x.bar(20, NONE, 255);
            due.is("half of each: 501", x.said(0, 501, 0), 3);
            due.is("the sort", x.said(0, 501, 1), sort);
            due.is("half of each: 500", x.said(0, 500, 0), 2);
            due.is("half of each: 500, the name", x.said(0, 500, 1), 0);
            due.is("of two sorts", x.said(1, 334, 0), 4);
            due.is("of two sorts: nothing", x.said(1, 334, 1), NONE);
        }
    }

    private static void saidRefused() {
        due.sentence("with so many thousandths (1 to 1000), what 0 which, 1 the NAME (of 1, 2), the SORT (of 3). NONE for others.");
        InkBars x = Due.withNames("ab", "cd");
        due.is("no bar", x.said(0, 500, 0), NONE);
        x.bar(20, NONE, 255);
        due.is("1", x.said(0, 1, 0), 2);
        due.is("1000", x.said(0, 1000, 0), 3);
        int[] noBar = {-1, 1, 3, 4, MIN, MAX};
        for (int k : noBar) {
            due.is("said(" + k + ", 500, 0)", x.said(k, 500, 0), NONE);
        }
        int[] noThousandths = {0, 1001, -1, MIN, MAX};
        for (int t : noThousandths) {
            due.is("said(0, " + t + ", 0)", x.said(0, t, 0), NONE);
            due.is("said(0, " + t + ", 1)", x.said(0, t, 1), NONE);
        }
        int[] noWhat = {-1, 2, 3, MIN, MAX};
        for (int what : noWhat) {
            due.is("said(0, 500, " + what + ")", x.said(0, 500, what), NONE);
        }
    }

    // ---- promise 32 ----

    /** Names 1, 3, 23 of 24 may, with odds 11, 13, 33. */
    private static InkBars three() {
        InkBars x = new InkBars();
        for (int i = 0; i < 24; i++) {
            Due.name(x, LOWER.charAt(i) + "a", 0, 0, 0, 10 + i);
        }
        x.bar(20, NONE, 255);
        Due.rules(x, "0(i=1|i=3|i=23)");
        return x;
    }

    private static void checkRight() {
        due.sentence("a NAME that it may, its ODDS (by its lowest 32 bits), all, by numbers: right, or the first number that is not so.");
        InkBars x = three();
        Due.numbers(x, 1, 11, 3, 13, 23, 33);
        due.is("right", x.check(0, 3), NONE);
        due.is("empty then", x.count(9), 0);
        Due.numbers(x, 3, 13, 1, 11, 23, 33);
        due.is("not by numbers", x.check(0, 3), 0);
        due.is("empty then, too", x.count(9), 0);
        Due.numbers(x, 1, 11, 3, 13, 23, 33, 0, 0, 0, 0);
        due.is("what is behind them does not count", x.check(0, 3), NONE);
        due.is("and is gone", x.count(9), 0);
        InkBars y = crowd(1, 20);
        int[] all = new int[48];
        for (int i = 0; i < 24; i++) {
            all[2 * i] = i;
            all[2 * i + 1] = 1;
        }
        Due.numbers(y, all);
        due.is("all 24", y.check(0, 24), NONE);
        Due.rules(y, "0(i<0)");
        due.is("none, of an empty tape", y.check(0, 0), NONE);
    }

    private static void checkPlaces() {
        due.sentence("NONE: right; else the place of the first number that is not so");
        int[] right = {1, 11, 3, 13, 23, 33};
        for (int place = 0; place < 6; place++) {
            for (int more = -1; more <= 1; more += 2) {
                InkBars x = three();
                int[] told = right.clone();
                told[place] += more;
                Due.numbers(x, told);
                due.is("number " + place + " by " + more, x.check(0, 3), place);
                told[5] = 99;
                Due.numbers(x, told);
                due.is("number " + place + " and the last", x.check(0, 3), place);
            }
        }
        InkBars y = three();
        Due.numbers(y, 1, 11, 3, 13, 23, 33, 24, 0);
        due.is("one too many", y.check(0, 4), 6);
        Due.numbers(y, 1, 11, 2, 12, 3, 13, 23, 33);
        due.is("one that it may not", y.check(0, 4), 2);
        Due.numbers(y, 1, 11, 1, 11, 3, 13, 23, 33);
        due.is("one twice", y.check(0, 4), 2);
        Due.numbers(y, -1, 11);
        due.is("NONE", y.check(0, 1), 0);
        Due.rules(y, "0(i<0)");
        Due.numbers(y, 0, 0);
        due.is("one of none", y.check(0, 1), 0);
    }

    private static void checkLacking() {
        due.sentence("(2 n: some are lacking)");
        for (int n = 0; n < 3; n++) {
            InkBars x = three();
            Due.numbers(x, 1, 11, 3, 13, 23, 33);
            due.is(n + " of three", x.check(0, n), 2 * n);
            due.is("empty then", x.count(9), 0);
        }
        InkBars y = three();
        due.is("none, of an empty tape", y.check(0, 0), 0);
        Due.numbers(y, 3, 13, 23, 33);
        due.is("the first is lacking: another one is there", y.check(0, 2), 0);
    }

    private static void checkLowest() {
        due.sentence("its ODDS (by its lowest 32 bits)");
        InkBars x = new InkBars();
        for (int i = 0; i < 24; i++) {
            Due.name(x, LOWER.charAt(i) + "a", 0, 0, 0, 100);
        }
        for (int k = 0; k < 4; k++) {
            x.bar(20, NONE, 255);
        }
        Due.rules(x, "1(i=0)");
        // 100 to the fourth times 24 times 24: 57,600,000,000, and 13 times 2 to the 32nd are 55,834,574,848.
        int lowest = 1765425152;
        due.is("odds", x.odds(0, 5), 57600000000L);
        int[] all = new int[48];
        for (int i = 0; i < 24; i++) {
            all[2 * i] = i;
            all[2 * i + 1] = lowest;
        }
        Due.numbers(x, all);
        due.is("by their lowest 32 bits", x.check(0, 24), NONE);
        // Of the sure one: 100 to the fourth times 24 to the third: 1,382,400,000,000.
        Due.numbers(x, 0, (int) 1382400000000L);
        due.is("and of a sure one", x.check(1, 1), NONE);
        due.is("its lowest bits are below 0", (int) 1382400000000L, -579469312);
        Due.numbers(x, 0, -579469311);
        due.is("one more", x.check(1, 1), 1);
    }

    private static void checkRefused() {
        due.sentence("-2: no such BAR, it has not so many (the tape stays).");
        InkBars x = three();
        int[] right = {1, 11, 3, 13, 23, 33};
        Due.numbers(x, right);
        int[] noBar = {-1, 1, 3, 4, MIN, MAX};
        for (int k : noBar) {
            due.is("check(" + k + ", 3)", x.check(k, 3), -2);
        }
        int[] notSoMany = {6, 7, 50, 51, 1 << 28, 1 << 29, 1 << 30, MAX, -1, MIN};
        for (int n : notSoMany) {
            due.is("check(0, " + n + ")", x.check(0, n), -2);
        }
        due.is("the tape stays", x.count(9), 40);
        due.is("five twos of forty bytes", x.check(0, 5), 6);
        due.is("empty then", x.count(9), 0);
        due.is("one of an empty tape", x.check(0, 1), -2);
        Due.numbers(x, 1, 11, 3);
        due.is("three of twenty bytes", x.check(0, 3), -2);
        due.is("two of twenty bytes", x.check(0, 2), 3);
        InkBars y = new InkBars();
        due.is("no bars", y.check(0, 0), -2);
    }
}
