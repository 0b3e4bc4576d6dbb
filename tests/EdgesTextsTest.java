/** Each sentence that names a boundary case of sheets and rules, their texts and how they are set: promises 8, 9, 17. */
public final class EdgesTextsTest {
    private static final int NONE = InkBars.NONE;
    private static final int MIN = Integer.MIN_VALUE;
    private static final int MAX = Integer.MAX_VALUE;
    private static final String LOWER = "abcdefghijklmnopqrstuvwxyz";
    private static final String DIGITS = "0123456789";
    private static final String SIGNS = "+-*/%";
    private static final String FACTORS = DIGITS + "iwnsyzvab[";
    private static final String PIECES = FACTORS + "!(";
    private static final String TWENTY_FOUR = "a b c d e f g h i j k l m n o p q r s t u v w x";
    private static final String TWELVE =
        "0(n>0);0(n>0);0(n>0);0(n>0);0(n>0);0(n>0);0(n>0);0(n>0);0(n>0);0(n>0);0(n>0);0(n>0)";
    private static final Due due = new Due("edges of texts");

    public static void main(String[] args) {
        sheetBounds();
        sheetLengths();
        sheetFull();
        sheetTokens();
        sheetBreaks();
        sheetWords();
        sheetSigns();
        sheetEnds();
        sheetThirteenth();
        sheetBarsTold();
        sheetTooManyTokens();
        sheetFirstFault();
        sheetFaultAnswer();
        setBounds();
        setFirstOne();
        lineNumbers();
        lineRows();
        lineWithoutBars();
        rulesLengths();
        rulesReplaced();
        rulesFaultKeeps();
        rulesClauses();
        rulesSigns();
        rulesSignsAtLimits();
        rulesEnds();
        rulesSixthDigit();
        rulesBarsAboveThree();
        rulesThirteenth();
        rulesDepth();
        rulesDepthEnds();
        rulesFirstFault();
        rulesBars();
        partsAndPieces();
        comparisons();
        fromTheLeft();
        numbers();
        letters();
        thirtyTwoBits();
        dividedByNothing();
        asMuchAsMatters();
        due.end();
    }

    private static InkBars withBars(int many) {
        InkBars x = new InkBars();
        for (int k = 0; k < many; k++) {
            x.bar(30, NONE, 255);
        }
        return x;
    }

    private static String times(String s, int many) {
        return s.repeat(many);
    }

    // ---- promise 8: sheets ----

    private static void sheetBounds() {
        due.sentence("WIDE (50 to 5000)");
        InkBars x = new InkBars();
        Due.feed(x, "ab");
        int[] none = {49, 5001, 0, -1, MIN, MAX};
        for (int wide : none) {
            due.is("sheet(" + wide + ", 2)", x.sheet(wide, 2), NONE);
        }
        due.is("the tape stays", x.count(9), 20);
        due.is("sheet(50, 2)", x.sheet(50, 2), 0);
        due.is("sheet(5000, 2)", Due.sheet(x, 5000, "ab"), 1);
        due.is("sheet(51, 2)", Due.sheet(x, 51, "ab"), 2);
        due.is("sheet(4999, 2)", Due.sheet(x, 4999, "ab"), 3);
    }

    private static void sheetLengths() {
        due.sentence("A SHEET by the first n bytes of the tape (1 to 160; empty then): its number");
        InkBars x = new InkBars();
        Due.feed(x, "a!");
        due.is("of one byte", x.sheet(50, 1), 0);
        due.is("empty then", x.count(9), 0);
        due.is("one token", x.count(20), 1);
        String longest = times("abcdefghijkl ", 12) + "abcd";
        due.is("a text of", longest.length(), 160);
        Due.feed(x, longest + "ef");
        int[] none = {161, 162, 180, 181, 0, -1, MIN, MAX};
        for (int n : none) {
            due.is("sheet(50, " + n + ")", x.sheet(50, n), NONE);
        }
        due.is("the tape stays", x.count(9), 180);
        due.is("of 160 bytes", x.sheet(50, 160), 1);
        due.is("empty then, too", x.count(9), 0);
        due.is("its tokens", x.count(21), 13);
        x.width(0, 1);
        due.is("the last one has four letters: 120 1 40 is in no line of 50", x.line(1, 0, 12), 12);
        due.sentence("it has not so many (the tape stays).");
        due.is("of an empty tape", x.sheet(50, 1), NONE);
        Due.feed(x, "a b c d e f g h i jj");
        due.is("21 of twenty", x.sheet(50, 21), NONE);
        due.is("the tape stays", x.count(9), 20);
        due.is("all twenty", x.sheet(50, 20), 2);
    }

    private static void sheetFull() {
        due.sentence("SHEETS 0 to 5");
        InkBars x = new InkBars();
        for (int s = 0; s < 6; s++) {
            due.is("sheet " + s, Due.sheet(x, 50, times("a ", s) + "a"), s);
            due.is("tokens of sheet " + s, x.count(20 + s), s + 1);
        }
        due.sentence("NONE: no such ones, six are there");
        due.is("a seventh", Due.sheet(x, 50, "a"), NONE);
        due.is("the tape stays", x.count(9), 20);
        due.is("a seventh with a fault is not even read", x.sheet(50, 2), NONE);
        due.is("the tape stays, too", x.count(9), 20);
        due.is("six", x.count(2), 6);
        for (int s = 0; s < 6; s++) {
            due.is("tokens of sheet " + s + " still", x.count(20 + s), s + 1);
        }
    }

    private static void sheetTokens() {
        due.sentence("TOKENS (24 at most) with a blank (32) or a / (47) between two");
        InkBars x = withBars(1);
        due.is("24 words", Due.sheet(x, 5000, TWENTY_FOUR), 0);
        due.is("its tokens", x.count(20), 24);
        due.is("its lines", x.count(30), 1);
        due.is("24 bars, each in a line", Due.sheet(x, 50, times("0/", 23) + "0"), 1);
        due.is("its tokens", x.count(21), 24);
        due.is("its lines", x.count(31), 24);
        due.is("one token", Due.sheet(x, 50, "0"), 2);
        due.is("its tokens", x.count(22), 1);
        due.is("its lines", x.count(32), 1);
    }

    private static void sheetBreaks() {
        due.sentence("(behind a / a new line begins)");
        InkBars x = Due.withNames("a");
        x.bar(10, NONE, 255);
        due.is("a/0 b/c", Due.sheet(x, 60, "abcde/0 b/abcd"), 0);
        due.is("its lines", x.count(30), 3);
        due.is("50 10 10 is wider than 60, 10 10 10 10 40 too", x.judge(0), 0);
        InkBars y = Due.withNames("a");
        y.bar(10, NONE, 255);
        Due.sheet(y, 60, "abcde 0/b abcd");
        due.is("otherwise", y.judge(0), 2);
    }

    private static void sheetWords() {
        due.sentence("a WORD of one to twelve letters, or a BAR: a digit.");
        InkBars x = Due.withNames("zz");
        x.bar(20, NONE, 255);
        due.is("words of one and twelve letters", Due.sheet(x, 500, "z abcdefghijkl z abcdefghijkl 0"), 0);
        due.is("its tokens", x.count(20), 5);
        x.width(26, 11);
        // 11 10 120 10 11 10 120 10 22 is 324.
        due.is("it stands in one line", x.line(0, 0, 1), NONE);
        Due.sheet(x, 324, "z abcdefghijkl z abcdefghijkl 0");
        Due.sheet(x, 323, "z abcdefghijkl z abcdefghijkl 0");
        due.is("as wide as its words and bars", x.line(1, 0, 1), NONE);
        due.is("wider than the sheet", x.line(2, 0, 1), 4);
    }

    /** Asks a text that goes on with each of the 256 bytes: the signs that go on so answer so, all others fault 1. */
    private static void eachSign(int bars, String before, String[] signs, int[] wants) {
        for (int sign = 0; sign < 256; sign++) {
            int want = -1000 - before.length();
            for (int set = 0; set < signs.length; set++) {
                want = signs[set].indexOf(sign) >= 0 ? wants[set] : want;
            }
            InkBars x = withBars(bars);
            due.is("sign " + sign + " behind " + before, Due.sheet(x, 50, before + (char) sign), want);
            due.is("empty then", x.count(9), 0);
            due.is("sheets with sign " + sign + " behind " + before, x.count(2), want < 0 ? 0 : 1);
        }
    }

    private static void sheetSigns() {
        due.sentence("1 what can't stand there (the end, too); 2 a thirteenth letter of a WORD, at it;");
        String[] first = {LOWER, "01", "23456789"};
        eachSign(2, "", first, new int[] {0, 0, -3000});
        eachSign(2, "ab ", first, new int[] {0, 0, -3003});
        eachSign(2, "ab/", first, new int[] {0, 0, -3003});
        eachSign(2, "1/", first, new int[] {0, 0, -3002});
        String[] further = {LOWER, " /"};
        eachSign(2, "ab", further, new int[] {0, -1003});
        eachSign(2, "a", further, new int[] {0, -1002});
        eachSign(2, "a abcdefghijk", further, new int[] {0, -1014});
        eachSign(2, "abcdefghijkl", further, new int[] {-2012, -1013});
        eachSign(2, "0", new String[] {" /"}, new int[] {-1002});
        eachSign(2, "a 1", new String[] {" /"}, new int[] {-1004});
        eachSign(2, TWENTY_FOUR, further, new int[] {0, -1048});
        eachSign(2, TWENTY_FOUR + " ", new String[] {LOWER + DIGITS}, new int[] {-4048});
        eachSign(2, TWENTY_FOUR + "/", new String[] {LOWER + DIGITS}, new int[] {-4048});
    }

    private static void sheetEnds() {
        due.sentence("1 what can't stand there (the end, too)");
        InkBars x = withBars(1);
        due.is("behind a blank", Due.sheet(x, 50, "a "), -1002);
        due.is("behind a /", Due.sheet(x, 50, "a/"), -1002);
        due.is("behind a bar and a blank", Due.sheet(x, 50, "0 "), -1002);
        due.is("a blank alone: it, not the end", Due.sheet(x, 50, " "), -1000);
        due.is("at 160", Due.sheet(x, 50, times("abcdefghijkl ", 11) + "abcdefghijkl abc "), -1160);
        due.is("behind the 24th token", Due.sheet(x, 50, TWENTY_FOUR + " "), -1048);
        Due.feed(x, "a b");
        due.is("though the tape goes on", x.sheet(50, 2), -1002);
    }

    private static void sheetThirteenth() {
        due.sentence("2 a thirteenth letter of a WORD, at it");
        InkBars x = withBars(1);
        due.is("of the first word", Due.sheet(x, 50, "abcdefghijklm"), -2012);
        due.is("of the second word", Due.sheet(x, 50, "abcdefghijkl abcdefghijklm"), -2025);
        due.is("of a word behind a bar", Due.sheet(x, 50, "0/zzzzzzzzzzzzz"), -2014);
        due.is("the fourteenth is not told", Due.sheet(x, 50, "zzzzzzzzzzzzzz"), -2012);
        due.is("of the 24th word", Due.sheet(x, 50, TWENTY_FOUR + "aaaaaaaaaaaaa"), -2058);
        due.is("twelve", Due.sheet(x, 50, "abcdefghijkl"), 0);
    }

    private static void sheetBarsTold() {
        due.sentence("3 a digit of a BAR that is not told, at it");
        for (int bars = 0; bars <= 4; bars++) {
            for (int digit = 0; digit <= 9; digit++) {
                InkBars x = withBars(bars);
                String call = "digit " + digit + " with " + bars + " bars";
                due.is(call, Due.sheet(x, 50, "" + digit), digit < bars ? 0 : -3000);
                due.is(call + ", behind others", Due.sheet(x, 50, "ab/cd " + digit), digit < bars ? 1 : -3006);
            }
        }
    }

    private static void sheetTooManyTokens() {
        due.sentence("4 a 25th TOKEN, at its first byte (if that can stand there; ahead of 3).");
        InkBars x = withBars(1);
        due.is("a word", Due.sheet(x, 50, TWENTY_FOUR + " word"), -4048);
        due.is("a bar", Due.sheet(x, 50, TWENTY_FOUR + "/0"), -4048);
        due.is("a bar that is not told", Due.sheet(x, 50, TWENTY_FOUR + " 1"), -4048);
        due.is("what can't stand there", Due.sheet(x, 50, TWENTY_FOUR + " !"), -1048);
        due.is("a second blank", Due.sheet(x, 50, TWENTY_FOUR + "  y"), -1048);
        due.is("a word too long: its first byte", Due.sheet(x, 50, TWENTY_FOUR + " aaaaaaaaaaaaa"), -4048);
        due.is("a 24th that is not told", Due.sheet(x, 50, TWENTY_FOUR.substring(0, 46) + "1"), -3046);
        due.is("24 bars and one", Due.sheet(x, 50, times("0 ", 24) + "0"), -4048);
        due.is("no sheet", x.count(2), 0);
        due.is("24", Due.sheet(x, 50, TWENTY_FOUR), 0);
    }

    private static void sheetFirstFault() {
        due.sentence("FAULTS, the first from the left: 1 what can't stand there (the end, too); 2");
        InkBars x = withBars(2);
        due.is("3 ahead of 1", Due.sheet(x, 50, "2a"), -3000);
        due.is("1 ahead of 3", Due.sheet(x, 50, "0a 2"), -1001);
        due.is("2 ahead of 3", Due.sheet(x, 50, "abcdefghijklm 2"), -2012);
        due.is("3 ahead of 2", Due.sheet(x, 50, "2 abcdefghijklm"), -3000);
        due.is("2 ahead of 1", Due.sheet(x, 50, "abcdefghijklmM"), -2012);
        due.is("1 ahead of 2", Due.sheet(x, 50, "abcdefghijklMm"), -1012);
        due.is("1 ahead of 4", Due.sheet(x, 50, "a." + TWENTY_FOUR + " y"), -1001);
        due.is("3 ahead of 4", Due.sheet(x, 50, "9 " + TWENTY_FOUR), -3000);
    }

    private static void sheetFaultAnswer() {
        due.sentence("a FAULT: -1000 times its number, less its place");
        InkBars x = withBars(1);
        due.is("fault 1 at 0", Due.sheet(x, 50, "A"), -1000);
        due.is("fault 1 at 159", Due.sheet(x, 50, times("abcdefghijkl ", 12) + "abc!"), -1159);
        due.is("fault 3 at 158", Due.sheet(x, 50, times("abcdefghijkl ", 12) + "a 1b"), -3158);
        due.is("empty then", x.count(9), 0);
        due.is("no sheet", x.count(2), 0);
        due.is("line of none", x.line(0, 0, 0), NONE);
        due.is("a good one behind them", Due.sheet(x, 50, "ab 0"), 0);
        due.is("it has its own tokens alone", x.count(20), 2);
    }

    // ---- promise 17: lines ----

    private static void setBounds() {
        due.sentence("if the line is not wider than WIDE then; else it begins a new line.");
        for (int wide = 58; wide <= 62; wide++) {
            InkBars x = Due.withNames("ab", "abcdef");
            x.bar(20, NONE, 255);
            Due.sheet(x, wide, "abc 0");
            due.is("30 10 20 in " + wide, x.line(0, 0, 1), wide >= 60 ? NONE : 1);
            due.is("30 10 60 in " + wide, x.line(0, 1, 1), 1);
            due.is("it breaks otherwise than told in " + wide, x.judge(0), wide >= 60 ? 0 : 2);
        }
        InkBars y = new InkBars();
        Due.sheet(y, 110, "abc abc abc abc abc abc abc");
        due.is("three in a line", y.line(0, 0, 1), 3);
        due.is("and three more", y.line(0, 0, 2), 6);
        due.is("and no more", y.line(0, 0, 3), NONE);
        y.joined(1, 2, 1);
        due.is("31 each: two in a line", y.line(0, 0, 1), 2);
        due.is("the last line", y.line(0, 0, 3), 6);
    }

    private static void setFirstOne() {
        due.sentence("(The first one of a line stands, however wide.)");
        InkBars x = Due.withNames("abcdefghijkl");
        x.bar(120, NONE, 255);
        Due.sheet(x, 50, "0 0 abcdefghijkl a");
        for (int l = 0; l < 4; l++) {
            due.is("line " + l, x.line(0, 0, l), l);
        }
        due.is("no line 4", x.line(0, 0, 4), NONE);
        due.is("no empty line ahead of it", x.line(0, 0, 0), 0);
        due.is("no filling of that sheet", x.judge(0), 2);
        InkBars y = Due.withNames("abcdefghijkl");
        y.bar(120, NONE, 255);
        Due.sheet(y, 50, "0/0/abcdefghijkl/a");
        due.is("but of this one", y.judge(0), 0);
    }

    private static void lineNumbers() {
        due.sentence("of line l (0: TOKEN 0), SET by a row of NAMES as above; NONE: there is no such line, no such ones.");
        InkBars x = Due.withNames("ab", "abc");
        x.bar(20, NONE, 255);
        due.is("no sheet", x.line(0, 0, 0), NONE);
        Due.sheet(x, 50, "0 a 0 a");
        due.is("ab a ab a: line 0", x.line(0, 0, 0), 0);
        due.is("ab a ab a: line 1", x.line(0, 0, 1), 2);
        due.is("ab a ab a: line 2", x.line(0, 0, 2), NONE);
        due.is("abc a abc a: line 1", x.line(0, 1, 1), 2);
        int[] noLine = {-1, 3, 4, 24, MIN, MAX};
        for (int l : noLine) {
            due.is("line(0, 0, " + l + ")", x.line(0, 0, l), NONE);
        }
        int[] noSheet = {-1, 1, 5, 6, MIN, MAX};
        for (int s : noSheet) {
            due.is("line(" + s + ", 0, 0)", x.line(s, 0, 0), NONE);
        }
        InkBars y = new InkBars();
        Due.sheet(y, 50, TWENTY_FOUR);
        due.is("three letters in a line: line 7", y.line(0, 0, 7), 21);
        y.width(0, 60);
        due.is("each in a line: line 23", y.line(0, 0, 23), 23);
        due.is("each in a line: line 24", y.line(0, 0, 24), NONE);
        Due.sheet(y, 500, "a b");
        due.is("a shorter sheet behind it: line 0", y.line(1, 0, 0), 0);
        due.is("a shorter sheet behind it: line 1", y.line(1, 0, 1), NONE);
        due.is("a shorter sheet behind it: line 2", y.line(1, 0, 2), NONE);
    }

    private static void lineRows() {
        due.sentence("told as digits of 24, that of BAR 0 in the lowest place");
        InkBars x = Due.withNames("a", "ab", "abc");
        for (int k = 0; k < 4; k++) {
            x.bar(30, NONE, 255);
        }
        for (int k = 0; k < 4; k++) {
            Due.sheet(x, 50, k + " abc");
        }
        int place = 1;
        for (int k = 0; k < 4; k++) {
            due.is("abc under bar " + k, x.line(k, 2 * place, 1), 1);
            due.is("ab under bar " + k, x.line(k, place, 1), 1);
            due.is("a under all", x.line(k, 0, 1), NONE);
            due.is("abc under another", x.line((k + 1) % 4, 2 * place, 1), NONE);
            due.is("no name 3 under bar " + k, x.line(k, 3 * place, 0), NONE);
            due.is("no name 23 under bar " + k, x.line(k, 23 * place, 0), NONE);
            place *= 24;
        }
        due.is("the greatest row of these names", x.line(0, 2 + 2 * 24 + 2 * 576 + 2 * 13824, 0), 0);
        int[] none = {-1, -24, -13824, 331775, 331776, 331776 + 1, 24 * 331776, MIN, MAX};
        for (int row : none) {
            due.is("line(0, " + row + ", 0)", x.line(0, row, 0), NONE);
            due.is("judge(" + row + ")", x.judge(row), NONE);
        }
    }

    private static void lineWithoutBars() {
        due.sentence("(Without BARS: row 0.)");
        InkBars x = Due.withNames("a", "b");
        Due.sheet(x, 50, "a b");
        due.is("row 0", x.line(0, 0, 0), 0);
        int[] none = {1, -1, 24, MIN, MAX};
        for (int row : none) {
            due.is("row " + row, x.line(0, row, 0), NONE);
        }
        x.bar(10, NONE, 255);
        due.is("with a bar, row 1", x.line(0, 1, 0), 0);
        due.is("with a bar, row 24", x.line(0, 24, 0), NONE);
        InkBars y = withBars(1);
        Due.sheet(y, 50, "a b");
        due.is("with a bar and no names, row 0", y.line(0, 0, 0), NONE);
    }

    // ---- promise 9: texts of rules ----

    private static void rulesLengths() {
        due.sentence("RULES by the first n bytes of the tape (1 to 160; empty then): how many CLAUSES");
        InkBars x = withBars(1);
        Due.feed(x, "0(n=1)!");
        due.is("of its first bytes alone", x.rules(6), 1);
        due.is("empty then", x.count(9), 0);
        due.is("of one byte", Due.rules(x, "0"), -1001);
        String longest = "0(n=" + times("99999+", 25) + "99999)";
        due.is("a text of", longest.length(), 160);
        Due.feed(x, longest + "1");
        int[] none = {0, 161, 162, 180, 181, -1, MIN, MAX};
        for (int n : none) {
            due.is("rules(" + n + ")", x.rules(n), NONE);
        }
        due.sentence("NONE: no such n, it has not so many (the tape stays).");
        due.is("the tape stays", x.count(9), 180);
        due.is("of 160", x.rules(160), 1);
        due.is("of an empty tape", x.rules(1), NONE);
        Due.feed(x, "0(n=1);1(n=2);2(3=n)");
        due.is("21 of twenty", x.rules(21), NONE);
        due.is("the tape stays", x.count(9), 20);
        due.is("the clauses stay", x.count(3), 1);
        due.is("all twenty", x.rules(20), 3);
    }

    private static void rulesReplaced() {
        due.sentence("a TEXT of at most 160 bytes, no blanks, in place of the one before (none at first)");
        InkBars x = Due.withNames("a", "ab", "abc");
        x.bar(20, NONE, 255);
        due.is("none at first", x.count(3), 0);
        due.is("no rules: all", x.may(0), 3);
        due.is("a first one", Due.rules(x, "0(n=1);0(n<9)"), 2);
        due.is("a", x.may(0), 1);
        due.is("one in its place", Due.rules(x, "0(n=2)"), 1);
        due.is("one clause", x.count(3), 1);
        due.is("ab", x.may(0), 2);
        due.is("a blank first", Due.rules(x, " 0(n=1)"), -1000);
        due.is("a blank within", Due.rules(x, "0(n =1)"), -1003);
        due.is("a blank last", Due.rules(x, "0(n=1) "), -1006);
        due.is("a longer one in its place", Due.rules(x, "0(n=1|n=2);0(n>0)"), 2);
        due.is("a, ab", x.may(0), 3);
    }

    private static void rulesFaultKeeps() {
        due.sentence("a FAULT likewise (the TEXT before stays)");
        InkBars x = Due.withNames("a", "ab");
        x.bar(20, NONE, 255);
        due.is("a fault with no text before", Due.rules(x, "0(n=2"), -1005);
        due.is("no clauses", x.count(3), 0);
        due.is("all", x.may(0), 3);
        Due.rules(x, "0(n=1);1(n=1)");
        String[] faulty = {"0(n=2", "0(n=2);0(n=123456)", "0(n=2);4(n=1)", TWELVE + ";0(n=2)", "0(n=2&((((((n=1"};
        int[] faults = {-1005, -2016, -3007, -4084, -5011};
        for (int f = 0; f < 5; f++) {
            due.is(faulty[f], Due.rules(x, faulty[f]), faults[f]);
            due.is("the text before stays", x.may(0), 1);
            due.is("its clauses stay", x.count(3), 2);
            due.is("the tape is empty", x.count(9), 0);
        }
    }

    private static void rulesClauses() {
        due.sentence("CLAUSES (12 at most) with a ; (59) between two");
        InkBars x = Due.withNames("a");
        x.bar(10, NONE, 255);
        StringBuilder text = new StringBuilder("0(n=1)");
        for (int clauses = 1; clauses <= 12; clauses++) {
            due.is(clauses + " clauses", Due.rules(x, text.toString()), clauses);
            due.is("count(3)", x.count(3), clauses);
            due.is("all hold", x.may(0), 1);
            due.is("the last does not", Due.rules(x, text.toString().replaceAll("1\\)$", "2)")), clauses);
            due.is("so none may", x.may(0), 0);
            text.append(";0(n=1)");
        }
        due.is("a thirteenth", Due.rules(x, text.toString()), -4084);
    }

    /** Asks a text that goes on with each of the 256 bytes: the signs that go on so answer so, all others fault 1. */
    private static void eachRuleSign(String before, String[] signs, int[] wants) {
        InkBars x = new InkBars();
        for (int sign = 0; sign < 256; sign++) {
            if (sign % 16 == 0) {
                x = new InkBars();
            }
            int want = -1000 - before.length();
            for (int set = 0; set < signs.length; set++) {
                want = signs[set].indexOf(sign) >= 0 ? wants[set] : want;
            }
            due.is("sign " + sign + " behind " + before, Due.rules(x, before + (char) sign), want);
        }
    }

    /** These signs may stand there, and then the end may not; all others are fault 1. */
    private static void goesOn(String before, String signs) {
        eachRuleSign(before, new String[] {signs}, new int[] {-1001 - before.length()});
    }

    private static void rulesSigns() {
        due.sentence("1 what can't stand there (the end, too); 2 a sixth digit, at it;");
        String[] first = {"0123", "456789"};
        eachRuleSign("", first, new int[] {-1001, -3000});
        eachRuleSign("0(n=1);", first, new int[] {-1008, -3007});
        goesOn("0", "(");
        goesOn("0(n=1);3", "(");
        goesOn("0(", PIECES);
        goesOn("0(!", PIECES);
        goesOn("0((", PIECES);
        goesOn("0(n=1&", PIECES);
        goesOn("0(n=1|", PIECES);
        goesOn("0((n=1)&", PIECES);
        goesOn("0([", FACTORS);
        goesOn("0(n+", FACTORS);
        goesOn("0(n%", FACTORS);
        goesOn("0(n=", FACTORS);
        goesOn("0(n<[", FACTORS);
        goesOn("0(n>n/", FACTORS);
        goesOn("0(n", SIGNS + "<>=");
        goesOn("0(1", DIGITS + SIGNS + "<>=");
        goesOn("0(n*1234", DIGITS + SIGNS + "<>=");
        goesOn("0([n]", SIGNS + "<>=");
        goesOn("0([n", SIGNS + "]");
        goesOn("0([1", DIGITS + SIGNS + "]");
        goesOn("0(n=[n", SIGNS + "]");
        goesOn("0((n=[n]", SIGNS + "&|)");
        goesOn("0(((n=n)", "&|)");
        eachRuleSign("0(n=n", new String[] {SIGNS + "&|", ")"}, new int[] {-1006, 1});
        eachRuleSign("0(n=1", new String[] {DIGITS + SIGNS + "&|", ")"}, new int[] {-1006, 1});
        eachRuleSign("0(n=[1]", new String[] {SIGNS + "&|", ")"}, new int[] {-1008, 1});
        eachRuleSign("0((n=1)", new String[] {"&|", ")"}, new int[] {-1008, 1});
        eachRuleSign("0(!!n=n", new String[] {SIGNS + "&|", ")"}, new int[] {-1008, 1});
        goesOn("0(n=1)", ";");
    }

    private static void rulesSignsAtLimits() {
        due.sentence("FAULTS, the first from the left: 1 what can't stand there (the end, too); 2 a sixth digit, at it; 3");
        String letters = "iwnsyzvab";
        eachRuleSign("0(12345", new String[] {SIGNS + "<>=", DIGITS}, new int[] {-1008, -2007});
        eachRuleSign("0(n=00000", new String[] {SIGNS + "&|", DIGITS, ")"}, new int[] {-1010, -2009, 1});
        eachRuleSign(TWELVE + ";", new String[] {DIGITS}, new int[] {-4084});
        goesOn(TWELVE, ";");
        eachRuleSign("0((((((", new String[] {DIGITS + letters, "(!["}, new int[] {-1008, -5007});
        eachRuleSign("0(!!!!!", new String[] {DIGITS + letters, "(!["}, new int[] {-1008, -5007});
        eachRuleSign("0(!(!(!", new String[] {DIGITS + letters, "(!["}, new int[] {-1008, -5007});
        eachRuleSign("0([[[[[", new String[] {DIGITS + letters, "["}, new int[] {-1008, -5007});
        eachRuleSign("0(n=[[[[[", new String[] {DIGITS + letters, "["}, new int[] {-1010, -5009});
        goesOn("0(((((", PIECES);
        goesOn("0([[[[", FACTORS);
    }

    private static void rulesEnds() {
        due.sentence("1 what can't stand there (the end, too); 2 a sixth digit");
        InkBars x = new InkBars();
        String whole = "0(!n<[1+2]&(s=3|y>4))";
        for (int n = 1; n < whole.length(); n++) {
            due.is("the end of " + whole.substring(0, n), Due.rules(x, whole.substring(0, n)), -1000 - n);
        }
        due.is(whole, Due.rules(x, whole), 1);
        due.is("the end behind ;", Due.rules(x, "0(n=1);"), -1007);
        due.is("the end behind the twelfth and ;", Due.rules(x, TWELVE + ";"), -1084);
        due.is("the end at 160", Due.rules(x, "0(n=" + times("99999+", 26)), -1160);
        Due.feed(x, "0(n=1)");
        due.is("though the tape goes on", x.rules(5), -1005);
    }

    private static void rulesSixthDigit() {
        due.sentence("2 a sixth digit, at it");
        InkBars x = new InkBars();
        due.is("five", Due.rules(x, "0(n=12345)"), 1);
        due.is("six", Due.rules(x, "0(n=123456)"), -2009);
        due.is("seven: the sixth", Due.rules(x, "0(n=1234567)"), -2009);
        due.is("first of a piece", Due.rules(x, "0(123456=n)"), -2007);
        due.is("zeros are digits", Due.rules(x, "0(n=000001)"), -2009);
        due.is("a second number", Due.rules(x, "0(n=12345+123456)"), -2015);
        due.is("two of five and of one digit", Due.rules(x, "0(12345*12345-1=1)"), 1);
        due.is("within [", Due.rules(x, "0([123456]=n)"), -2008);
        due.is("a second clause", Due.rules(x, "0(n=12345);0(n=123456)"), -2020);
    }

    private static void rulesBarsAboveThree() {
        due.sentence("3 a digit of a BAR above 3, at it");
        InkBars x = new InkBars();
        for (int digit = 0; digit <= 9; digit++) {
            due.is("bar " + digit, Due.rules(x, digit + "(n=1)"), digit <= 3 ? 1 : -3000);
            due.is("a second clause of bar " + digit, Due.rules(x, "3(n=1);" + digit + "(n=1)"), digit <= 3 ? 2 : -3007);
        }
        due.is("bars need not be told", x.count(1), 0);
    }

    private static void rulesThirteenth() {
        due.sentence("4 a 13th CLAUSE, at its digit (if that can stand there; ahead of 3)");
        InkBars x = new InkBars();
        due.is("twelve", Due.rules(x, TWELVE), 12);
        for (int digit = 0; digit <= 9; digit++) {
            due.is("a 13th of bar " + digit, Due.rules(x, TWELVE + ";" + digit + "(n=1)"), -4084);
        }
        due.is("a digit alone", Due.rules(x, TWELVE + ";9"), -4084);
        due.is("what can't stand there", Due.rules(x, TWELVE + ";x"), -1084);
        due.is("what can't stand there: ;", Due.rules(x, TWELVE + ";;"), -1084);
        due.is("a twelfth of bar 4", Due.rules(x, TWELVE.substring(0, 77) + "4(n>0)"), -3077);
    }

    private static void rulesDepth() {
        due.sentence("5 a seventh of ( [ ! that are open in one another, at it (the ( of the CLAUSE counts");
        InkBars x = new InkBars();
        for (int deep = 1; deep <= 8; deep++) {
            String round = "0(" + times("(", deep - 1) + "n=1" + times(")", deep - 1) + ")";
            String square = "0(" + times("[", deep - 1) + "n" + times("]", deep - 1) + "=1)";
            String right = "0(n=" + times("[", deep - 1) + "n" + times("]", deep - 1) + ")";
            String not = "0(" + times("!", deep - 1) + "n=1)";
            due.is(round, Due.rules(x, round), deep <= 6 ? 1 : -5007);
            due.is(square, Due.rules(x, square), deep <= 6 ? 1 : -5007);
            due.is(right, Due.rules(x, right), deep <= 6 ? 1 : -5009);
            due.is(not, Due.rules(x, not), deep <= 6 ? 1 : -5007);
        }
        due.is("mixed: six", Due.rules(x, "0((!(![n]=1)))"), 1);
        due.is("mixed: seven", Due.rules(x, "0((!(!([n]=1))))"), -5007);
        due.is("! ( and [ of the right side", Due.rules(x, "0(!(!(n=[[1]])))"), -5009);
        due.is("! ( and [ of the right side: six", Due.rules(x, "0(!(!(n=[1])))"), 1);
        due.is("what can't stand there is 1", Due.rules(x, "0((((((n=(1))))))"), -1009);
        hold("(((((1=1)))))", "!!!!!1=2", "[[[[[1]]]]]=1", "1=[[[[[1]]]]]", "!(!([2-1]=1))", "1=1&(((((1=1)))))");
        holdNot("(((((1=2)))))", "!!!!!1=1", "[[[[[1]]]]]=2", "1=[[[[[2]]]]]", "!(!([2-1]=2))", "1=1&(((((1=2)))))");
    }

    private static void rulesDepthEnds() {
        due.sentence("a ! is open till its PIECE ends)");
        InkBars x = new InkBars();
        due.is("in one another, not behind one another", Due.rules(x, "0(!n=1&!n=1|!n=1&!n=1&!n=1|!n=1&!n=1)"), 1);
        due.is("five !, then [", Due.rules(x, "0(!!!!!n=1&[n]=1)"), 1);
        due.is("five !, then [ in their piece", Due.rules(x, "0(!!!!!n=[1])"), -5009);
        due.is("five !, then five (", Due.rules(x, "0(!!!!!n=1|(((((n=1))))))"), 1);
        due.is("five !, then six (", Due.rules(x, "0(!!!!!n=1|((((((n=1)))))))"), -5016);
        due.is("a ! whose piece is in ( )", Due.rules(x, "0(!(n=1)&(((((n=1))))))"), 1);
        due.is("a ! whose piece is in ( ), then one more", Due.rules(x, "0(!(n=1)&((((((n=1)))))))"), -5014);
        due.is("a ! stays open in its ( )", Due.rules(x, "0(!(n=1&((((n=1))))))"), -5011);
        due.is("an ended ! in ( )", Due.rules(x, "0((!n=1&((((n=1))))))"), 1);
        due.is("[ ] behind one another", Due.rules(x, "0([n]+[n]-[n]*[n]=[n]/[n]%[n])"), 1);
        due.is("( ) behind one another", Due.rules(x, "0((n=1)&(n=1)|(n=1)&(n=1)|(n=1)&(n=1)|(n=1))"), 1);
        due.is("a clause ends all", Due.rules(x, "0((((((n=1))))));1(!!!!!n=1);2([[[[[n]]]]]=1)"), 3);
        due.is("and begins anew", Due.rules(x, "0(n=1);1(!!!!!!n=1)"), -5014);
    }

    private static void rulesFirstFault() {
        due.sentence("    FAULTS, the first from the left: 1 what can't stand there (the end, too); 2 a sixth digit");
        InkBars x = new InkBars();
        due.is("2 ahead of 1", Due.rules(x, "0(n=1234567x"), -2009);
        due.is("1 ahead of 2", Due.rules(x, "0(n==123456)"), -1004);
        due.is("3 ahead of 1", Due.rules(x, "4x"), -3000);
        due.is("1 ahead of 3", Due.rules(x, "0x;4(n=1)"), -1001);
        due.is("3 ahead of 5", Due.rules(x, "7(!!!!!!n=1)"), -3000);
        due.is("5 ahead of 3", Due.rules(x, "0(!!!!!!n=1);7(n=1)"), -5007);
        due.is("2 ahead of 5", Due.rules(x, "0(n=123456&!!!!!!n=1)"), -2009);
        due.is("5 ahead of 2", Due.rules(x, "0(!!!!!!n=123456)"), -5007);
        due.is("5 ahead of 4", Due.rules(x, TWELVE.substring(0, 77) + "0(!!!!!!n=1);0(n=1)"), -5084);
        due.is("4 ahead of 5", Due.rules(x, TWELVE + ";0(!!!!!!n=1)"), -4084);
    }

    // ---- what rules mean ----

    /** A bar of ink 1, three more of ink 3000; names: e (sort 0, years 0 to 0), zzzzzzzzzzzz (sort 7, years 198 to 199). */
    private static InkBars asked() {
        InkBars x = new InkBars();
        Due.name(x, "e", 0, 0, 0, 1);
        Due.name(x, "zzzzzzzzzzzz", 7, 198, 199, 1);
        x.bar(1, NONE, 255);
        for (int k = 1; k < 4; k++) {
            x.bar(3000, NONE, 255);
        }
        return x;
    }

    private static boolean holds(InkBars x, int k, int i, String condition) {
        int clauses = Due.rules(x, k + "(" + condition + ")");
        if (clauses != 1) {
            due.is(condition + " is taken", clauses, 1);
        }
        return (x.against(k, i) & 8) == 0;
    }

    /** Texts that hold, whatever the name. */
    private static void hold(String... conditions) {
        for (String condition : conditions) {
            due.is(condition, holds(asked(), 0, 0, condition), true);
        }
    }

    private static void holdNot(String... conditions) {
        for (String condition : conditions) {
            due.is(condition, holds(asked(), 0, 0, condition), false);
        }
    }

    private static void rulesBars() {
        due.sentence("a digit of a BAR, (C): of the NAME under it C holds.");
        InkBars x = asked();
        for (int k = 0; k < 4; k++) {
            Due.rules(x, k + "(n=1)");
            for (int other = 0; other < 4; other++) {
                due.is("of bar " + k + ", asked of " + other, x.against(other, 1) & 8, other == k ? 8 : 0);
                due.is("of bar " + k + ", asked of " + other + ", e", x.against(other, 0) & 8, 0);
            }
        }
        due.sentence("8 RULES: some CLAUSE of the BAR does not hold.");
        Due.rules(x, "0(n=1);1(n=12);0(s=0);2(1=2);0(v=1);0(i=0)");
        due.is("all of bar 0 hold for e", x.against(0, 0) & 8, 0);
        due.is("bar 1: not for e", x.against(1, 0) & 8, 8);
        due.is("bar 1: for z", x.against(1, 1) & 8, 0);
        due.is("bar 2: for none", x.against(2, 0) & 8, 8);
        due.is("bar 3 has no clause", x.against(3, 0) & 8, 0);
        Due.rules(x, "0(n=1);0(s=0);0(v=0)");
        due.is("the last does not hold", x.against(0, 0) & 8, 8);
        Due.rules(x, "0(n=2);0(s=0);0(v=1)");
        due.is("the first does not hold", x.against(0, 0) & 8, 8);
        Due.rules(x, "0(n=1);0(s=1);0(v=1)");
        due.is("the middle one does not hold", x.against(0, 0) & 8, 8);
        InkBars y = Due.withNames("a");
        Due.rules(y, "1(n=2)");
        y.bar(10, NONE, 255);
        y.bar(10, NONE, 255);
        due.is("a clause told ahead of its bar: another", y.against(0, 0), 0);
        due.is("a clause told ahead of its bar", y.against(1, 0), 8);
    }

    private static void partsAndPieces() {
        due.sentence("PARTS with a | between two, one of which must hold");
        hold("1=1", "1=1|1=2", "1=2|1=1", "1=2|1=2|1=1", "1=1|1=2|1=2", "1=2|1=1|1=2");
        holdNot("1=2", "1=2|1=2", "1=2|1=2|1=2");
        due.sentence("PIECES with an & between two, all of which must");
        hold("1=1&1=1", "1=1&1=1&1=1", "1=2|1=1&1=1", "1=1&1=1|1=2", "1=2&1=1|1=1", "1=1|1=1&1=2");
        holdNot("1=1&1=2", "1=2&1=1", "1=1&1=1&1=2", "1=1&1=2&1=1", "1=2&1=1&1=1", "1=2|1=1&1=2", "1=1&1=2|1=2");
        due.sentence("!PIECE, (C), or E, one of < > =, and E");
        hold("!1=2", "!!1=1", "!(1=2)", "!(1=1&1=2)", "!1=2&1=1", "!1=2|1=2", "(1=1)", "((1=2|1=1)&1=1)", "!!!1=2");
        holdNot("!1=1", "!!1=2", "!(1=1)", "!(1=2|1=1)", "!1=1&1=2", "!1=2&1=2", "(1=2)", "(1=2|1=1)&1=2", "!!!1=1");
    }

    private static void comparisons() {
        due.sentence("one of < > =");
        hold("1<2", "2>1", "2=2", "0-1<0", "0>0-1", "0-2<0-1");
        holdNot("2<2", "2<1", "2>2", "1>2", "1=2", "0-1=1", "0-1>0-1", "0<0-1");
    }

    private static void fromTheLeft() {
        due.sentence("FACTORS with one of * / % between two; from the left on");
        hold("9-4-3=2", "9-4+3=8", "64/8/2=4", "64/[8/2]=16", "7*3/2=10", "7/2*3=9", "9%5*2=8", "2*9%5=3", "9-2*3=3",
            "2*3-9=0-3", "[9-2]*3=21", "100%7%2=0", "2+3*4-5=9", "6/4*4=4");
    }

    private static void numbers() {
        due.sentence("a number of one to five digits");
        hold("0=0", "9=9", "99999=100*1000-1", "00000=0", "00001=1", "10000=100*100", "12345=12*1000+345", "00010=10");
    }

    private static void letters() {
        due.sentence("i the NAME's number, w its WIDTH, n how many letters it has, s its SORT");
        InkBars x = asked();
        String[] first = {"i=0", "w=10", "n=1", "s=0", "y=0", "z=0", "v=1", "a=5", "b=1"};
        String[] second = {"i=1", "w=120", "n=12", "s=7", "y=198", "z=199", "v=0", "a=26", "b=3000"};
        for (int c = 0; c < 9; c++) {
            due.is("e: " + first[c], holds(x, 0, 0, first[c]), true);
            due.is("e: " + second[c], holds(x, 0, 0, second[c]), false);
            due.is("z: " + first[c], holds(x, 1, 1, first[c]), false);
            due.is("z: " + second[c], holds(x, 1, 1, second[c]), true);
        }
        x.joined(26, 26, -20);
        due.is("a width below 0", holds(x, 1, 1, "w=0-100"), true);
        due.sentence("v whether it begins with a, e, i, o, u (1, 0), a its first letter (1 to 26), b the INK");
        InkBars y = new InkBars();
        y.bar(10, NONE, 255);
        for (int i = 0; i < 24; i++) {
            char letter = LOWER.charAt(i);
            Due.name(y, letter + "i", 0, 0, 0, 1);
            due.is("v of " + letter, holds(y, 0, i, "v=1"), "aeiou".indexOf(letter) >= 0);
            due.is("v is 1 or 0: " + letter, holds(y, 0, i, "v=0|v=1"), true);
            due.is("a of " + letter, holds(y, 0, i, "a=" + (i + 1)), true);
            due.is("i of " + letter, holds(y, 0, i, "i=" + i), true);
        }
    }

    private static void thirtyTwoBits() {
        due.sentence("All is reckoned with 32 bits, as the machine does");
        hold("65536*32768<0", "65536*32768-1>0", "65536*65536=0", "[65536*32768]/[0-1]<0", "[65536*32768]%[0-1]=0",
            "0-65536*32768<0", "99999*99999/50000=28197", "[0-7]/2=0-3", "[0-7]%3=0-1", "7/[0-2]=0-3", "7%[0-3]=1",
            "65535*32769<65534*32767", "65535*32768+32767>0", "65535*32768+65535+1<0");
    }

    private static void dividedByNothing() {
        due.sentence("what is divided by 0 is REFUSED: then the whole C that is asked does not hold.");
        holdNot("1/0=0", "1%0=0", "0/0=0", "!1/0=0", "!(1/0=0)", "!!1/0=0", "!(!(1/0=1))", "1/0=0|1=1", "(1/0=0)|1=1",
            "!(1/0=0)|1=1", "1=2|1/0=0|1=1", "1=1&1/0=0|1=1", "1=1&1/0=1", "!(1=1&(1/0=0))", "0*[1/0]=0", "1/[2-2]=0",
            "1/0*0=0", "1=1/0", "1/0=1/0", "1%[i]=0", "!(1%[i]=0)", "1/i=1|i=0");
        hold("0/1=0", "0%1=0", "1/[i-1]=0-1", "1=1|1/i=1");
        InkBars x = asked();
        Due.rules(x, "0(1/i=1)");
        due.is("i is 0", x.against(0, 0) & 8, 8);
        due.is("i is 1: what was refused is of no account", x.against(0, 1) & 8, 0);
        Due.rules(x, "1(1/0=0);0(n=1)");
        due.is("another clause is not asked", x.against(0, 0) & 8, 0);
        due.is("it holds for none", x.against(1, 0) & 8, 8);
        due.is("nor does what was refused stay", x.against(0, 0) & 8, 0);
        Due.rules(x, "0(!1/0=0);0(n=1)");
        due.is("one clause of two", x.against(0, 0) & 8, 8);
        due.is("a rule that divides by 0 is taken", x.count(3), 2);
    }

    private static void asMuchAsMatters() {
        due.sentence("Of a C as much is asked, from the left, as matters.");
        hold("1=1|1/0=0", "1=1|1=2|1/0=0", "1=2|1=1|1/0=0", "1=2&1/0=0|1=1", "1=1&1=2&1/0=0|1=1", "!(1=2&1/0=0)",
            "(1=1|1/0=0)&1=1", "1=1|(1/0=0)", "1=1|!(1/0=0)", "1=1|1=1&1/0=0", "(1=2&(1/0=0|1=1))|1=1",
            "!(1=1&1=2&1%0=1)", "1=1|0*[1/0]=0", "1=2&1=1/0|1=1");
        holdNot("1=2&1/0=0", "1=2&1=1|1/0=0", "1=1&1/0=0", "1/0=0&1=2|1=1", "1=2|1=2|1/0=0", "(1=2|1/0=0)|1=1",
            "!(1=1|1/0=0)", "1=1&(1=2|1/0=0)|1=1");
    }
}
