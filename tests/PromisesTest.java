/** Each promise of the document: ordinary inputs, the edges that it names, and wrong inputs. */
public final class PromisesTest {
    private static final int NONE = InkBars.NONE;
    private static final int MIN = Integer.MIN_VALUE;
    private static final int MAX = Integer.MAX_VALUE;
    private static Due due;

    public static void main(String[] args) {
        due = new Due("promises");
        newObject();
        width();
        joined();
        feed();
        name();
        wide();
        bar();
        sheet();
        sheetFaults();
        rules();
        rulesFaults();
        rulesSense();
        tie();
        listed();
        lifted();
        habit();
        house();
        against();
        judge();
        line();
        linesBreak();
        linesChange();
        fillings();
        may();
        odds();
        given();
        kept();
        said();
        copy();
        open();
        needless();
        since();
        twice();
        stricter();
        note();
        missing();
        check();
        count();
        due.end();
    }

    /** ann 30, bob 30, eve 30, ivan 40, rosa 40, with weights 2, 3, 5, 7, 1. */
    private static InkBars five() {
        InkBars x = new InkBars();
        Due.name(x, "ann", 1, 5, 20, 2);
        Due.name(x, "bob", 2, 0, 9, 3);
        Due.name(x, "eve", 1, 10, 30, 5);
        Due.name(x, "ivan", 1, 0, 199, 7);
        Due.name(x, "rosa", 3, 0, 50, 1);
        return x;
    }

    private static void newObject() {
        InkBars x = new InkBars();
        due.is("NONE", InkBars.NONE, -1);
        for (int what = 0; what <= 10; what++) {
            due.is("new: count(" + what + ")", x.count(what), 0);
        }
        due.is("new: count(20)", x.count(20), NONE);
        due.is("new: count(30)", x.count(30), NONE);
        due.is("new: habit(0, 0)", x.habit(0, 0), 0);
        due.is("new: habit(0, 1)", x.habit(0, 1), 20);
        due.is("new: wide(0)", x.wide(0), NONE);
        due.is("new: may(0)", x.may(0), NONE);
        due.is("new: given()", x.given(), NONE);
        InkBars y = five();
        due.is("another object's names", x.count(0), 0);
        due.is("five names", y.count(0), 5);
    }

    private static void width() {
        InkBars x = Due.withNames("az");
        due.is("az at first", x.wide(0), 20);
        due.is("width(1, 1)", x.width(1, 1), true);
        due.is("width(26, 60)", x.width(26, 60), true);
        due.is("az", x.wide(0), 61);
        due.is("width(0, 60)", x.width(0, 60), true);
        due.is("the blank is not in a word", x.wide(0), 61);
        due.is("width(0, 1)", x.width(0, 1), true);
        int[][] wrong = {{-1, 5}, {27, 5}, {1, 0}, {1, 61}, {26, -1}, {MIN, 5}, {MAX, 5}, {0, MAX}, {0, MIN}};
        for (int[] w : wrong) {
            due.is("width(" + w[0] + ", " + w[1] + ")", x.width(w[0], w[1]), false);
        }
        due.is("az still", x.wide(0), 61);
        // The blank counts between tokens: 20 + blank + 20 is at most 50 only with a blank of ten or less.
        InkBars y = new InkBars();
        Due.sheet(y, 50, "ab ab");
        due.is("blank 10: one line", y.line(0, 0, 1), NONE);
        y.width(0, 11);
        due.is("blank 11: two lines", y.line(0, 0, 1), 1);
    }

    private static void joined() {
        InkBars x = Due.withNames("aab", "ba", "a");
        due.is("joined(1, 2, -20)", x.joined(1, 2, -20), true);
        due.is("aab: b behind a", x.wide(0), 10);
        due.is("ba: none", x.wide(1), 20);
        due.is("joined(1, 1, 20)", x.joined(1, 1, 20), true);
        due.is("aab: a behind a, too", x.wide(0), 30);
        due.is("a: one letter", x.wide(2), 10);
        due.is("joined(1, 2, 0)", x.joined(1, 2, 0), true);
        due.is("aab: told anew", x.wide(0), 50);
        due.is("joined(26, 26, 1)", x.joined(26, 26, 1), true);
        int[][] wrong = {{0, 1, 1}, {1, 0, 1}, {27, 1, 1}, {1, 27, 1}, {1, 1, 21}, {1, 1, -21}, {MIN, 1, 1}, {1, MAX, 1},
            {1, 1, MIN}};
        for (int[] w : wrong) {
            due.is("joined(" + w[0] + ", " + w[1] + ", " + w[2] + ")", x.joined(w[0], w[1], w[2]), false);
        }
        due.is("aab still", x.wide(0), 50);
        // Widths may fall below 0, and still be set.
        InkBars y = Due.withNames("aaaaaaaaaaaa");
        y.width(1, 1);
        y.joined(1, 1, -20);
        due.is("twelve a", y.wide(0), 12 - 220);
        InkBars z = five();
        z.bar(30, -1, 255);
        due.is("before", z.may(0), 7);
        z.joined(14, 14, 1);
        due.is("ann is too wide now", z.may(0), 6);
    }

    private static void feed() {
        InkBars x = new InkBars();
        for (int i = 1; i <= 20; i++) {
            due.is("feed " + i, x.feed(-1, 0x61626364, 3, 4, 5), 20 * i);
        }
        due.is("feed 21", x.feed(1, 2, 3, 4, 5), NONE);
        due.is("tape", x.count(9), 400);
        InkBars y = new InkBars();
        y.feed(0x61626364, 0x65666768, 0x696a6b6c, 0, 0);
        due.is("name of the first bytes", y.name(12, 0, 0, 0, 1), 0);
        due.is("its width", y.wide(0), 120);
        y.feed(0x61626364, 0x65666768, 0x696a6b6c, 0, 0);
        due.is("the same bytes again", y.name(12, 0, 0, 0, 1), -2);
        y.width(1, 20);
        y.feed(0x61000000, 0, 0, 0, 0);
        due.is("the highest byte first", y.name(1, 0, 0, 0, 1), 1);
        due.is("it is an a", y.wide(1), 20);
    }

    private static void name() {
        InkBars x = new InkBars();
        due.is("no tape", x.name(1, 0, 0, 0, 1), NONE);
        due.is("first", Due.name(x, "a", 0, 0, 0, 1), 0);
        due.is("tape is empty", x.count(9), 0);
        due.is("second", Due.name(x, "abcdefghijkl", 7, 199, 199, 100), 1);
        Due.feed(x, "abcdefghijklm");
        int[][] wrong = {{0, 0, 0, 0, 1}, {13, 0, 0, 0, 1}, {-1, 0, 0, 0, 1}, {MAX, 0, 0, 0, 1}, {3, -1, 0, 0, 1},
            {3, 8, 0, 0, 1}, {3, 0, -1, 0, 1}, {3, 0, 0, 200, 1}, {3, 0, 9, 8, 1}, {3, 0, 0, 0, 0}, {3, 0, 0, 0, 101},
            {3, 0, 200, 200, 1}};
        for (int[] w : wrong) {
            due.is("name of wrong arguments", x.name(w[0], w[1], w[2], w[3], w[4]), NONE);
        }
        due.is("tape stays", x.count(9), 20);
        due.is("third", x.name(3, 0, 0, 0, 1), 2);
        due.is("alike", Due.name(x, "abc", 1, 1, 1, 1), -2);
        due.is("tape is empty then, too", x.count(9), 0);
        due.is("a blank", Due.name(x, "a b", 1, 1, 1, 1), -2);
        due.is("a capital", Due.name(x, "Ab", 1, 1, 1, 1), -2);
        due.is("the sign below a", Due.name(x, "`", 1, 1, 1, 1), -2);
        due.is("the sign above z", Due.name(x, "{", 1, 1, 1, 1), -2);
        due.is("a last sign that is none", Due.name(x, "ab0", 1, 1, 1, 1), -2);
        due.is("a name's beginning is not alike", Due.name(x, "ab", 1, 1, 1, 1), 3);
        due.is("behind one that was refused", Due.name(x, "z", 1, 1, 1, 1), 4);
        for (int i = 5; i < 24; i++) {
            due.is("name " + i, Due.name(x, "q" + (char) ('a' + i), 0, 0, 0, 1), i);
        }
        due.is("a 25th", Due.name(x, "full", 0, 0, 0, 1), NONE);
        due.is("tape stays at a 25th", x.count(9), 20);
        due.is("24 names", x.count(0), 24);
        InkBars y = new InkBars();
        y.feed(-1, -1, -1, -1, -1);
        due.is("bytes of 255", y.name(2, 0, 0, 0, 1), -2);
    }

    private static void wide() {
        InkBars x = Due.withNames("a", "abc");
        due.is("wide(0)", x.wide(0), 10);
        due.is("wide(1)", x.wide(1), 30);
        due.is("wide(2)", x.wide(2), NONE);
        due.is("wide(-1)", x.wide(-1), NONE);
        due.is("wide(MIN)", x.wide(MIN), NONE);
        due.is("wide(MAX)", x.wide(MAX), NONE);
    }

    private static void bar() {
        InkBars x = new InkBars();
        int[][] wrong = {{0, -1, 0}, {3001, -1, 0}, {1, -2, 0}, {1, 200, 0}, {1, -1, -1}, {1, -1, 256}, {MIN, 0, 0},
            {MAX, 0, 0}};
        for (int[] w : wrong) {
            due.is("bar of wrong arguments", x.bar(w[0], w[1], w[2]), NONE);
        }
        due.is("bar(1, -1, 0)", x.bar(1, -1, 0), 0);
        due.is("bar(3000, 199, 255)", x.bar(3000, 199, 255), 1);
        due.is("bar(1, 0, 1)", x.bar(1, 0, 1), 2);
        due.is("bar(1, 0, 1) again", x.bar(1, 0, 1), 3);
        due.is("a fifth", x.bar(1, 0, 1), NONE);
        due.is("count(1)", x.count(1), 4);
    }

    private static void sheet() {
        InkBars x = new InkBars();
        x.bar(10, -1, 255);
        Due.feed(x, "a 0/an");
        int[][] wrong = {{49, 6}, {5001, 6}, {50, 0}, {50, 161}, {50, 21}, {50, -1}, {MIN, 6}, {MAX, 6}, {50, MAX}};
        for (int[] w : wrong) {
            due.is("sheet(" + w[0] + ", " + w[1] + ")", x.sheet(w[0], w[1]), NONE);
        }
        due.is("tape stays", x.count(9), 20);
        due.is("sheet(50, 6)", x.sheet(50, 6), 0);
        due.is("tape is empty", x.count(9), 0);
        due.is("tokens", x.count(20), 3);
        due.is("lines", x.count(30), 2);
        due.is("a faulty one", Due.sheet(x, 5000, "a//b"), -1002);
        due.is("tape is empty behind a fault", x.count(9), 0);
        due.is("still one sheet", x.count(2), 1);
        due.is("a sheet of 5000", Due.sheet(x, 5000, "a"), 1);
        StringBuilder longest = new StringBuilder("abcdefghijkl");
        for (int t = 1; t < 12; t++) {
            longest.append(" abcdefghijkl");
        }
        longest.append(" ab c");
        due.is("a text of 160", longest.length(), 160);
        due.is("a sheet of 160", Due.sheet(x, 50, longest.toString()), 2);
        due.is("its tokens", x.count(22), 14);
        for (int s = 3; s < 6; s++) {
            due.is("sheet " + s, Due.sheet(x, 50, "0"), s);
        }
        due.is("a seventh", Due.sheet(x, 50, "0"), NONE);
        due.is("its tape stays", x.count(9), 20);
        due.is("six sheets", x.count(2), 6);
    }

    private static void sheetFaults() {
        InkBars x = new InkBars();
        x.bar(10, -1, 255);
        x.bar(10, -1, 255);
        String many = "a a a a a a a a a a a a a a a a a a a a a a a a";
        Object[][] faults = {{" ", 1000}, {"/", 1000}, {"A", 1000}, {"`", 1000}, {"{", 1000}, {":", 1000}, {"a ", 1002},
            {"a/", 1002}, {"a  b", 1002}, {"a/ b", 1002}, {"a.b", 1001}, {"a0", 1001}, {"0a", 1001}, {"01", 1001},
            {"abB", 1002}, {"abcdefghijklm", 2012}, {"a abcdefghijklmn 9", 2014}, {"2", 3000}, {"9", 3000},
            {"a 0 1/2", 3006}, {"29", 3000}, {"0 3a", 3002}, {many + " b", 4048}, {many + "/0", 4048},
            {many + " 9", 4048}, {many + " .", 1048}, {many + " ", 1048}, {many + ".", 1047}, {many + "  ", 1048},
            {"abcdefghijkl0", 1012}};
        for (Object[] f : faults) {
            due.is("sheet of " + f[0], Due.sheet(x, 100, (String) f[0]), -(Integer) f[1]);
        }
        due.is("no sheet", x.count(2), 0);
        due.is("24 tokens", Due.sheet(x, 100, many), 0);
        due.is("bars and words", Due.sheet(x, 100, "0/1 abcdefghijkl"), 1);
    }

    private static void rules() {
        InkBars x = Due.withNames("ab", "abc");
        x.bar(30, -1, 255);
        Due.feed(x, "0(n=3);3(i=9);1(n=1) ");
        due.is("rules(0)", x.rules(0), NONE);
        due.is("rules(-1)", x.rules(-1), NONE);
        due.is("rules(161)", x.rules(161), NONE);
        due.is("rules(41)", x.rules(41), NONE);
        due.is("rules(MIN)", x.rules(MIN), NONE);
        due.is("tape stays", x.count(9), 40);
        due.is("three clauses", x.rules(20), 3);
        due.is("tape is empty", x.count(9), 0);
        due.is("count(3)", x.count(3), 3);
        due.is("may", x.may(0), 2);
        due.is("a faulty text", Due.rules(x, "0(n=2"), -1005);
        due.is("tape is empty behind a fault", x.count(9), 0);
        due.is("the text before stays", x.may(0), 2);
        due.is("count(3) stays", x.count(3), 3);
        due.is("another text", Due.rules(x, "0(n=2)"), 1);
        due.is("in place of the one before", x.may(0), 1);
        StringBuilder twelve = new StringBuilder("0(n=2)");
        for (int c = 1; c < 12; c++) {
            twelve.append(";0(n=2)");
        }
        due.is("twelve clauses", Due.rules(x, twelve.toString()), 12);
        due.is("count(3) of twelve", x.count(3), 12);
        StringBuilder longest = new StringBuilder("0(n=");
        for (int i = 0; i < 25; i++) {
            longest.append("99999+");
        }
        longest.append("99999)");
        due.is("a text of 160", longest.length(), 160);
        due.is("rules of 160", Due.rules(x, longest.toString()), 1);
        due.is("it holds for none", x.may(0), 0);
    }

    private static void rulesFaults() {
        InkBars x = new InkBars();
        String twelve = "0(n=1);0(n=1);0(n=1);0(n=1);0(n=1);0(n=1);0(n=1);0(n=1);0(n=1);0(n=1);0(n=1);0(n=1);";
        Object[][] faults = {{"x", 1000}, {"(", 1000}, {" ", 1000}, {"0", 1001}, {"00", 1001}, {"0(", 1002},
            {"0()", 1002}, {"0(n", 1003}, {"0(n)", 1003}, {"0(n=)", 1004}, {"0(n=1", 1005}, {"0(n=1)", 0},
            {"0(n=1);", 1007}, {"0(n=1)1", 1006}, {"0(n=1))", 1006}, {"0(n=1=2)", 1005}, {"0(n=1&)", 1006},
            {"0(n=1|)", 1006}, {"0(n=1&&n=1)", 1006}, {"0(!)", 1003}, {"0(n!=1)", 1003}, {"0(-1=n)", 1002},
            {"0(n+=1)", 1004}, {"0(n=1+)", 1006}, {"0(n=[1)", 1006}, {"0(n=[])", 1005}, {"0(n=[1]])", 1007},
            {"0(n=(1))", 1004}, {"0((n)=1)", 1004}, {"0((n=1)", 1007}, {"0((n=1)=1)", 1007}, {"0([n=1])", 1004},
            {"0(c=1)", 1002}, {"0(x=1)", 1002}, {"0(N=1)", 1002}, {"0(n=1 )", 1005}, {"0(nn=1)", 1003},
            {"0(n1=1)", 1003}, {"0(1n=1)", 1003}, {"0(n=12345)", 0}, {"0(n=123456)", 2009}, {"0(123456=n)", 2007},
            {"0(n=000000)", 2009}, {"0(00000=n)", 0}, {"4(n=1)", 3000}, {"9", 3000}, {"0(n=1);7(", 3007},
            {"3(n=1)", 0}, {twelve + "0(n=1)", 4084}, {twelve + "9", 4084}, {twelve, 1084}, {twelve + "(", 1084},
            {"0((((((n=1))))))", 0}, {"0(((((((n=1)))))))", 5007}, {"0(!!!!!n=1)", 0}, {"0(!!!!!!n=1)", 5007},
            {"0(!!!!![n]=1)", 5007}, {"0(!!!!!(n=1))", 5007}, {"0([[[[[n]]]]]=1)", 0}, {"0([[[[[[n]]]]]]=1)", 5007},
            {"0((!([![n]=1)))", 1006}, {"0(((([[[n]]=1)))", 5007}, {"0(!!!!!n=1&!!!!!n=2|!!!!!!n=1)", 5025},
            {"0(!!!(!n=1&!n=1&n=[2]))", 0}, {"0(!!!(!n=1&!n=[2]))", 5014}, {"0(((((n=1)))));0(((((((", 5022},
            {"0(n=1*/2)", 1006}, {"0(n<1|n>1&n=1)", 0}, {"0(n<1|n>1;n=1)", 1009}, {"0(!!!!!(", 5007},
            {"0(n=!1)", 1004}, {"0(!n)", 1004}, {"0(n=1)\0", 1006}, {"0(123456", 2007}, {"0(12345=", 1008}};
        for (Object[] f : faults) {
            int fault = (Integer) f[1];
            String text = (String) f[0];
            due.is("rules of " + text, Due.rules(x, text), fault == 0 ? text.split(";").length : -fault);
        }
    }

    /** Asks one clause of a bar of ink 45 over: ab (w 20, n 2, s 3, y 5, z 9) as name 0, ibc as name 1. */
    private static int holds(String condition) {
        InkBars x = new InkBars();
        Due.name(x, "bab", 3, 5, 9, 1);
        Due.name(x, "ib", 6, 0, 199, 1);
        x.bar(45, -1, 255);
        Due.rules(x, "0(" + condition + ")");
        return (x.against(0, 0) & 8) / 8 + (x.against(0, 1) & 8) / 4;
    }

    private static void rulesSense() {
        // 0: holds for both, 1: not for bab, 2: not for ib, 3: for none.
        Object[][] cases = {{"i=0", 2}, {"i=1", 1}, {"w=30", 2}, {"w=20", 1}, {"n=3", 2}, {"n=2", 1}, {"s=3", 2},
            {"s=6", 1}, {"y=5", 2}, {"y=0", 1}, {"z=9", 2}, {"z=199", 1}, {"v=0", 2}, {"v=1", 1}, {"a=2", 2}, {"a=9", 1},
            {"b=45", 0}, {"b<45", 3}, {"b>45", 3}, {"b<46", 0}, {"b>44", 0}, {"w<30", 1}, {"w>20", 2}, {"!n=3", 1},
            {"!!n=3", 2}, {"!(n=3)", 1}, {"n=3&w=30", 2}, {"n=3&w=20", 3}, {"n=3|w=20", 0}, {"n=9|n=8", 3},
            {"n=3|n=2&w=30", 2}, {"(n=3|n=2)&w=30", 2}, {"n=2&w=30|n=3", 2}, {"!n=3&n=2", 1}, {"!(n=3&n=2)", 0},
            {"2+3*4=14", 0}, {"[2+3]*4=20", 0}, {"10-3-2=5", 0}, {"20/3/2=3", 0}, {"20%7*2=12", 0}, {"7/2*2=6", 0},
            {"2*7%4=2", 0}, {"1-8=[0-7]", 0}, {"[0-7]/2=[0-3]", 0}, {"[0-7]%2=[0-1]", 0}, {"0-1<0", 0},
            {"99999*99999/50000=28197", 0}, {"99999*99999>0", 0}, {"65536*65536=0", 0}, {"65536*32768<0", 0},
            {"[65536*32768]/[0-1]<0", 0}, {"[65536*32768]%[0-1]=0", 0}, {"65536*32768-1>0", 0},
            {"1/0=0", 3}, {"1%0=0", 3}, {"!1/0=0", 3}, {"!(1/0=0)", 3}, {"n=3|1/0=0", 2}, {"1/0=0|n=3", 3},
            {"1/0=0|1=1", 3}, {"n=3&1/0=0", 3}, {"n=3&1/i=0|n=2", 1}, {"n=2&1/i=1|n=3", 0}, {"(1/0=1)|1=1", 3},
            {"!(n=3&!(1/0=1))", 1}, {"0*[1/0]=0", 3}, {"1/[i-1]=9|1=1", 2}, {"n=2|(n=3&1/i=1)", 1},
            {"n=3|n=9&1/0=0|1=1", 0}, {"1=2&(1/0=1|1=1)|1=1", 0}, {"i=0|6/i=6", 0}, {"00005=5", 0}};
        for (Object[] c : cases) {
            due.is("0(" + c[0] + ")", holds((String) c[0]), (Integer) c[1]);
        }
        InkBars x = Due.withNames("ab", "abc", "abcd");
        x.bar(35, -1, 255);
        x.bar(37, -1, 255);
        Due.rules(x, "0(n>2);1(b=37&n<4);0(n<4);2(1=0)");
        due.is("both clauses of bar 0: ab", x.against(0, 0), 8);
        due.is("both clauses of bar 0: abc", x.against(0, 1), 0);
        due.is("both clauses of bar 0: abcd", x.against(0, 2), 9);
        due.is("the clause of bar 1: abc", x.against(1, 1), 0);
        due.is("the clause of bar 1: abcd", x.against(1, 2), 9);
        x.width(4, 5);
        due.is("a new width is asked at once", x.against(1, 2), 8);
        Due.rules(x, "1(w<31)");
        due.is("w as it is now", x.against(1, 2), 8);
        x.joined(3, 4, -4);
        due.is("w with joined letters", x.against(1, 2), 8);
        x.joined(3, 4, -5);
        due.is("w with joined letters, narrower", x.against(1, 2), 0);
    }

    private static void tie() {
        InkBars x = five();
        due.is("a tie without bars", x.tie(0, 0, 1), false);
        x.bar(35, -1, 255);
        x.bar(35, -1, 255);
        due.is("at first", x.fillings(0), 9);
        int[][] wrong = {{-1, 0, 1}, {3, 0, 1}, {0, -1, 1}, {0, 2, 1}, {0, 1, 2}, {0, 0, 0}, {1, 1, 1}, {2, 1, 1},
            {0, MIN, 1}, {MAX, 0, 1}};
        for (int[] w : wrong) {
            due.is("tie(" + w[0] + ", " + w[1] + ", " + w[2] + ")", x.tie(w[0], w[1], w[2]), false);
        }
        due.is("no ties", x.count(4), 0);
        due.is("tie(1, 0, 1)", x.tie(1, 0, 1), true);
        due.is("another one", x.fillings(0), 6);
        due.is("tie(2, 1, 0)", x.tie(2, 1, 0), true);
        due.is("ahead", x.fillings(0), 3);
        due.is("bar 0 has the later ones", x.may(0), 6);
        due.is("bar 1 has the earlier ones", x.may(1), 3);
        for (int t = 2; t < 20; t++) {
            due.is("tie " + t, x.tie(1, 1, 0), true);
        }
        due.is("a 21st", x.tie(1, 1, 0), false);
        due.is("twenty", x.count(4), 20);
        InkBars y = five();
        y.bar(35, -1, 255);
        y.bar(35, -1, 255);
        y.tie(0, 0, 1);
        due.is("the same", y.fillings(0), 3);
        due.is("the same: odds", y.odds(0, 2), 25);
        y.tie(2, 0, 1);
        due.is("none is ahead of itself", y.fillings(0), 0);
        // What ends first is ahead.
        InkBars z = Due.withNames("anna", "ann");
        z.bar(35, -1, 255);
        z.bar(45, -1, 255);
        z.tie(2, 0, 1);
        due.is("ann is ahead of anna", z.judge(1), 0);
        due.is("anna is not ahead of ann, and wider", z.judge(24), 17);
        due.is("fillings by the alphabet", z.fillings(0), 1);
    }

    private static void listed() {
        InkBars x = five();
        due.is("without bars", x.listed(0, NONE, NONE), false);
        x.bar(35, -1, 255);
        int[][] wrong = {{1, 0, 1}, {-1, 0, 1}, {0, 5, 1}, {0, 1, 5}, {0, -2, 1}, {0, 1, -2}, {MIN, 0, 1}, {0, MIN, 0},
            {0, 0, MAX}};
        for (int[] w : wrong) {
            due.is("listed(" + w[0] + ", " + w[1] + ", " + w[2] + ")", x.listed(w[0], w[1], w[2]), false);
        }
        due.is("none listed", x.count(5), 0);
        due.is("behind none, ahead of none", x.listed(0, NONE, NONE), true);
        due.is("all three", x.may(0), 7);
        due.is("behind ann", x.listed(0, 0, NONE), true);
        due.is("behind ann: not ann", x.may(0), 6);
        due.is("ahead of eve", x.listed(0, NONE, 2), true);
        due.is("ahead of eve: not eve", x.may(0), 2);
        due.is("against eve", x.against(0, 2), 16);
        due.is("ann ahead of all", x.listed(0, 0, 4), true);
        for (int l = 4; l < 20; l++) {
            due.is("listed " + l, x.listed(0, NONE, 4), true);
        }
        due.is("a 21st", x.listed(0, NONE, NONE), false);
        due.is("twenty", x.count(5), 20);
        due.is("still", x.may(0), 2);
        InkBars y = Due.withNames("anna", "ann", "annab");
        y.bar(35, -1, 255);
        y.listed(0, 1, 2);
        due.is("between ann and annab: anna, but too wide", y.against(0, 0), 1);
        y.bar(45, -1, 255);
        y.listed(1, 1, 2);
        due.is("anna", y.against(1, 0), 0);
        due.is("ann", y.against(1, 1), 16);
        due.is("annab", y.against(1, 2), 17);
        due.is("the same name on both sides", y.listed(1, 0, 0), true);
        due.is("nothing is between", y.may(1), 0);
    }

    private static void lifted() {
        InkBars x = five();
        int[][] wrong = {{-1, 0, 1}, {4, 0, 1}, {0, -1, 1}, {0, 5, 1}, {0, 0, 0}, {0, 0, 3001}, {MIN, 0, 1}, {0, MAX, 1},
            {0, 0, MIN}};
        for (int[] w : wrong) {
            due.is("lifted(" + w[0] + ", " + w[1] + ", " + w[2] + ")", x.lifted(w[0], w[1], w[2]), false);
        }
        due.is("none lifted", x.count(6), 0);
        due.is("lifted(3, 4, 3000)", x.lifted(3, 4, 3000), true);
        due.is("lifted(0, 0, 1)", x.lifted(0, 0, 1), true);
        for (int l = 2; l < 60; l++) {
            due.is("lifted " + l, x.lifted(0, 0, 1), true);
        }
        due.is("a 61st", x.lifted(0, 0, 1), false);
        due.is("sixty", x.count(6), 60);
    }

    private static void habit() {
        InkBars x = five();
        due.is("habit(0, 0)", x.habit(0, 0), 0);
        due.is("habit(3, 1)", x.habit(3, 1), 20);
        due.is("habit(-1, 0)", x.habit(-1, 0), -10000);
        due.is("habit(4, 0)", x.habit(4, 0), -10000);
        due.is("habit(0, -1)", x.habit(0, -1), -10000);
        due.is("habit(0, 2)", x.habit(0, 2), -10000);
        due.is("habit(MAX, 0)", x.habit(MAX, 0), -10000);
        x.lifted(1, 0, 37);
        due.is("one: the least", x.habit(1, 0), 7);
        due.is("one: the greatest", x.habit(1, 1), 7);
        x.lifted(1, 3, 44);
        x.lifted(1, 4, 45);
        due.is("three: the least", x.habit(1, 0), 4);
        due.is("three: the greatest", x.habit(1, 1), 7);
        due.is("another house", x.habit(0, 1), 20);
        x.lifted(2, 0, 3);
        due.is("below 0", x.habit(2, 0), -27);
        due.is("below 0, the greatest", x.habit(2, 1), -27);
        x.width(22, 14);
        due.is("ivan is wider now", x.habit(1, 0), 0);
        x.joined(1, 14, -3);
        due.is("ann and ivan have joined letters", x.habit(1, 1), 10);
    }

    private static void house() {
        InkBars x = five();
        x.bar(35, -1, 255);
        due.is("house 0 at first", x.count(10), 0);
        due.is("by house 0", x.may(0), 7);
        x.lifted(2, 3, 35);
        due.is("house(2)", x.house(2), true);
        due.is("count(10)", x.count(10), 2);
        due.is("by house 2", x.may(0), 24);
        due.is("house(4)", x.house(4), false);
        due.is("house(-1)", x.house(-1), false);
        due.is("house(MIN)", x.house(MIN), false);
        due.is("still house 2", x.count(10), 2);
        due.is("still by house 2", x.may(0), 24);
        due.is("house(3)", x.house(3), true);
        due.is("house(0)", x.house(0), true);
        due.is("by house 0 again", x.may(0), 7);
    }

    private static void against() {
        InkBars x = five();
        x.bar(50, 20, 2);
        due.is("against(0, 0): its last year", x.against(0, 0), 0);
        due.is("against(0, 1): year, sort", x.against(0, 1), 32);
        due.is("against(0, 2)", x.against(0, 2), 0);
        due.is("against(0, 4): sort", x.against(0, 4), 32);
        due.is("against(1, 0)", x.against(1, 0), NONE);
        due.is("against(-1, 0)", x.against(-1, 0), NONE);
        due.is("against(0, 5)", x.against(0, 5), NONE);
        due.is("against(0, -1)", x.against(0, -1), NONE);
        due.is("against(MAX, MIN)", x.against(MAX, MIN), NONE);
        x.bar(51, 10, 255);
        due.is("21 more than ann", x.against(1, 0), 1);
        due.is("its year is ahead of its first", x.against(1, 2), 1);
        due.is("11 more than ivan", x.against(1, 3), 0);
        due.is("bob's last year is before", x.against(1, 1), 33);
        x.bar(39, 9, 255);
        due.is("less than ivan", x.against(2, 3), 1);
        due.is("before eve's first year", x.against(2, 2), 32);
        x.bar(40, 4, 255);
        due.is("as wide as ivan", x.against(3, 3), 0);
        due.is("before ann's first year", x.against(3, 0), 32);
        Due.sheet(x, 5000, "a 0 an 1 the 2 a the 2 ana 3 0 3");
        due.is("a, ann", x.against(0, 0), 4);
        due.is("a, bob", x.against(0, 1), 32);
        due.is("a, ivan", x.against(0, 3), 4);
        due.is("an, ivan", x.against(1, 3), 0);
        due.is("an, rosa", x.against(1, 4), 4);
        due.is("the, eve", x.against(2, 2), 32);
        due.is("ana, ivan; not lines or ties alone", x.against(3, 3), 0);
        Due.sheet(x, 50, "an/2/a/3");
        due.is("over a break: an, bob", x.against(2, 1), 4);
        due.is("an still stands ahead of the other one", x.against(1, 4), 4);
        due.is("over a break: a, eve", x.against(3, 2), 36);
        due.is("over a break: a, ivan", x.against(3, 3), 4);
        x.tie(0, 0, 1);
        x.tie(1, 0, 1);
        due.is("no ties alone", x.against(1, 3), 0);
        InkBars y = Due.withNames("abe", "ebe", "ibe", "obe", "ube", "ybe", "be");
        y.bar(30, -1, 255);
        Due.sheet(y, 5000, "a 0");
        int[] want = {4, 4, 4, 4, 4, 0, 0};
        for (int i = 0; i < 7; i++) {
            due.is("vowels: " + i, y.against(0, i), want[i]);
        }
        Due.sheet(y, 5000, "an 0");
        due.is("a and an: a vowel", y.against(0, 0), 4);
        due.is("a and an: none", y.against(0, 6), 4);
    }

    private static void judge() {
        InkBars x = five();
        due.is("without bars", x.judge(0), NONE);
        x.bar(35, -1, 255);
        due.is("judge(0)", x.judge(0), 0);
        due.is("judge(3)", x.judge(3), 1);
        due.is("judge(5)", x.judge(5), NONE);
        due.is("judge(24)", x.judge(24), NONE);
        due.is("judge(-1)", x.judge(-1), NONE);
        due.is("judge(-24)", x.judge(-24), NONE);
        due.is("judge(MIN)", x.judge(MIN), NONE);
        due.is("judge(MAX)", x.judge(MAX), NONE);
        x.bar(45, 60, 255);
        x.bar(45, -1, 8);
        x.bar(45, -1, 255);
        int row = 1 + 24 * 3 + 576 * 4 + 13824 * 2;
        due.is("bob, ivan, rosa, eve", x.judge(row), 0);
        due.is("bob, rosa, rosa, eve: year", x.judge(row + 24), 32);
        due.is("bob, ivan, ivan, eve: sort", x.judge(row - 576), 32);
        due.is("ivan, ivan, rosa, eve: ink", x.judge(row + 2), 1);
        Due.rules(x, "1(n<4)");
        due.is("a rule", x.judge(row), 8);
        x.tie(0, 1, 3);
        due.is("a rule, a tie", x.judge(row), 24);
        Due.sheet(x, 50, "a 1");
        due.is("a rule, a tie, grammar, a line", x.judge(row), 30);
        x.bar(45, -1, 255);
        due.is("a fifth place", x.judge(331776), NONE);
        due.is("the last row that could be", x.judge(331775), NONE);
    }

    private static void line() {
        InkBars x = new InkBars();
        Due.sheet(x, 50, "ab abc ab abc abcdefghijkl a");
        int[] without = {0, 2, 3, 4, 5};
        for (int l = 0; l < 5; l++) {
            due.is("line(0, 0, " + l + ")", x.line(0, 0, l), without[l] - (l == 0 ? 0 : 1));
        }
        due.is("line(0, 0, 5)", x.line(0, 0, 5), 5);
        due.is("line(0, 0, 6)", x.line(0, 0, 6), NONE);
        due.is("line(0, 0, -1)", x.line(0, 0, -1), NONE);
        due.is("line(0, 0, MAX)", x.line(0, 0, MAX), NONE);
        due.is("line(0, 1, 0)", x.line(0, 1, 0), NONE);
        due.is("line(0, -1, 0)", x.line(0, -1, 0), NONE);
        due.is("line(1, 0, 0)", x.line(1, 0, 0), NONE);
        due.is("line(-1, 0, 0)", x.line(-1, 0, 0), NONE);
        due.is("line(MIN, 0, 0)", x.line(MIN, 0, 0), NONE);
        InkBars y = five();
        y.bar(35, -1, 255);
        y.bar(35, -1, 255);
        Due.sheet(y, 70, "0 1 ab a");
        // ann bob: 30 + 10 + 30 is 70, just as wide as the sheet; then ab a: 20 + 10 + 10.
        due.is("ann bob: line 1", y.line(0, 24, 1), 2);
        due.is("ann bob: line 2", y.line(0, 24, 2), NONE);
        // ann ivan: 80 is too wide; ivan ab: 70 stands; a begins the next.
        due.is("ann ivan: line 1", y.line(0, 72, 1), 1);
        due.is("ann ivan: line 2", y.line(0, 72, 2), 3);
        due.is("a row of no names", y.line(0, 5, 0), NONE);
        due.is("a row too long", y.line(0, 576, 0), NONE);
        y.width(0, 9);
        due.is("ann ivan, blank 9: line 1", y.line(0, 72, 1), 1);
        y.width(1, 1);
        due.is("ann ivan, a narrow: line 1", y.line(0, 72, 1), 2);
    }

    private static void linesBreak() {
        InkBars x = five();
        x.bar(45, -1, 255);
        Due.sheet(x, 50, "a 0");
        due.is("a bob: 50", x.judge(1), 0);
        due.is("a rosa: 60", x.judge(4), 2);
        Due.sheet(x, 50, "0/a");
        due.is("bob/a: it would stand in one line", x.judge(1), 2);
        due.is("rosa: each sheet", x.judge(4), 2);
        due.is("no filling breaks so", x.fillings(0), 0);
        due.is("without lines and grammar", x.fillings(6), 5);
        InkBars y = five();
        y.bar(45, -1, 255);
        due.is("by itself", y.fillings(0), 5);
        Due.sheet(y, 60, "abcdefgh/ab abc/0");
        // The bar's line: 60 + 10 + 30 or 40 is too wide for any.
        due.is("a bar behind a break", y.fillings(0), 5);
        Due.sheet(y, 60, "ab 0");
        due.is("a bar behind a word", y.fillings(0), 3);
        due.is("a bar behind a word: may", y.may(0), 7);
        Due.sheet(y, 5000, "ab/ab");
        due.is("a sheet without bars that breaks otherwise", y.fillings(0), 0);
        due.is("it is judged so", y.judge(0), 2);
        due.is("it gives away", y.given(), 2);
        InkBars z = five();
        z.bar(45, -1, 255);
        Due.sheet(z, 90, "0 0/0");
        due.is("thrice: 30 30 30 is 110", z.may(0), 31);
        Due.sheet(z, 80, "0 0");
        due.is("twice: 40 40 is 90", z.may(0), 7);
        Due.sheet(z, 50, "abcdefghijkl/0");
        due.is("a first one that is too wide stands", z.may(0), 7);
    }

    /** Breaks are asked anew when widths change. */
    private static void linesChange() {
        InkBars x = five();
        x.bar(45, -1, 255);
        Due.sheet(x, 60, "ab 0");
        due.is("ab ann: 60", x.may(0), 7);
        x.width(0, 9);
        due.is("blank 9", x.may(0), 7);
        x.width(0, 1);
        due.is("blank 1: ab ivan is 61", x.may(0), 7);
        x.width(2, 8);
        due.is("b 8: ab ivan is 59", x.may(0), 31);
        x.lifted(0, 0, 55);
        x.lifted(0, 0, 30);
        due.is("a habit to 25", x.may(0), 31);
        x.width(0, 20);
        due.is("blank 20: ab bob is 64", x.may(0), 0);
        x.width(2, 5);
        due.is("b 5: ab bob is 55, 25 less than the ink", x.may(0), 2);
        x.width(0, 10);
        due.is("blank 10 again", x.may(0), 7);
        x.width(2, 10);
        due.is("as at first", x.may(0), 7);
        Due.sheet(x, 50, "abc ab");
        due.is("60 breaks", x.may(0), 0);
        x.width(0, 1);
        x.width(1, 5);
        due.is("ab ann: 15 1 25; abc ab: 25 1 15", x.may(0), 31);
        x.width(1, 10);
        due.is("abc ab: 51", x.may(0), 0);
        x.joined(1, 2, -1);
        due.is("abc ab: 49; ab rosa: 60", x.may(0), 31);
    }

    private static void fillings() {
        InkBars x = five();
        due.is("without bars", x.fillings(0), NONE);
        x.bar(35, -1, 255);
        due.is("one bar", x.fillings(0), 3);
        x.bar(55, 55, 255);
        due.is("two bars", x.fillings(0), 3);
        due.is("without ink", x.fillings(1), 5);
        due.is("without lines", x.fillings(2), 3);
        due.is("without years", x.fillings(32), 6);
        due.is("without both", x.fillings(33), 25);
        due.is("without all", x.fillings(63), 25);
        due.is("fillings(64)", x.fillings(64), NONE);
        due.is("fillings(-1)", x.fillings(-1), NONE);
        due.is("fillings(MIN)", x.fillings(MIN), NONE);
        x.tie(0, 0, 1);
        due.is("a tie", x.fillings(0), 0);
        due.is("without ties", x.fillings(16), 3);
        due.is("without ties and ink", x.fillings(17), 5);
        Due.rules(x, "0(n=4)");
        due.is("a rule, without rules", x.fillings(8 + 16), 3);
        due.is("a rule, without ties", x.fillings(16), 0);
        due.is("without all again", x.fillings(63), 25);
        InkBars y = new InkBars();
        y.bar(35, -1, 255);
        due.is("no names", y.fillings(63), 0);
        InkBars z = new InkBars();
        for (int i = 0; i < 24; i++) {
            Due.name(z, "a" + (char) ('a' + i), 0, 0, 0, 100);
        }
        for (int k = 0; k < 4; k++) {
            z.bar(20, -1, 255);
        }
        due.is("all that there can be", z.fillings(0), 331776);
        due.is("what all are worth", z.odds(0, NONE), 331776L * 100000000L);
        due.is("what one is worth", z.odds(3, 23), 13824L * 100000000L);
        due.is("may: all", z.may(3), (1 << 24) - 1);
        z.tie(2, 0, 1);
        z.tie(2, 1, 2);
        z.tie(2, 2, 3);
        due.is("in order", z.fillings(0), 24 * 23 * 22 * 21 / 24);
        due.is("the first may not be the last", z.may(0), (1 << 21) - 1);
    }

    private static void may() {
        InkBars x = five();
        due.is("without bars", x.may(0), NONE);
        x.bar(50, -1, 255);
        due.is("may(0)", x.may(0), 31);
        due.is("may(1)", x.may(1), NONE);
        due.is("may(-1)", x.may(-1), NONE);
        due.is("may(MAX)", x.may(MAX), NONE);
        x.bar(60, -1, 255);
        due.is("may(1) now", x.may(1), 24);
        x.tie(2, 1, 0);
        due.is("only rosa is behind ivan", x.may(0), 16);
        due.is("ivan is ahead", x.may(1), 8);
        x.bar(1, -1, 255);
        due.is("nothing fits under one", x.may(0), 0);
    }

    private static void odds() {
        InkBars x = five();
        x.bar(45, -1, 255);
        x.bar(35, -1, 255);
        due.is("all", x.odds(0, NONE), 18 * 10);
        due.is("the same of the other bar", x.odds(1, NONE), 180);
        due.is("ivan", x.odds(0, 3), 70);
        due.is("ivan can't", x.odds(1, 3), 0);
        due.is("eve", x.odds(1, 2), 90);
        x.tie(1, 0, 1);
        due.is("others only", x.odds(0, NONE), 180 - 4 - 9 - 25);
        due.is("odds(2, 0)", x.odds(2, 0), NONE);
        due.is("odds(-1, 0)", x.odds(-1, 0), NONE);
        due.is("odds(0, 5)", x.odds(0, 5), NONE);
        due.is("odds(0, -2)", x.odds(0, -2), NONE);
        due.is("odds(MIN, MIN)", x.odds(MIN, MIN), NONE);
        due.is("odds(2, NONE)", x.odds(2, NONE), NONE);
    }

    private static void given() {
        InkBars x = five();
        due.is("without bars", x.given(), NONE);
        x.bar(45, -1, 255);
        due.is("of like ones the lowest", x.given(), 1);
        x.bar(45, 60, 255);
        due.is("year", x.given(), 32);
        Due.rules(x, "0(n=4);1(n=3)");
        // Without rules there is ivan with five; without the year there are bob's and the rest: 2 by 3.
        due.is("without rules", x.fillings(8), 5);
        due.is("without years", x.fillings(32), 6);
        due.is("years before rules", x.given(), 32);
        InkBars y = five();
        y.bar(35, -1, 255);
        Due.sheet(y, 5000, "an 0");
        due.is("ink against grammar: alike", y.given(), 1);
        due.is("without ink", y.fillings(1), 3);
        due.is("without grammar", y.fillings(4), 3);
        Due.name(y, "cat", 0, 0, 0, 1);
        due.is("grammar", y.given(), 4);
        InkBars z = five();
        z.bar(45, -1, 255);
        z.listed(0, 0, 2);
        due.is("listed", z.given(), 16);
        Due.rules(z, "0(n=9)");
        due.is("rules", z.given(), 8);
        z.listed(0, 0, 1);
        due.is("two together: none alone", z.given(), 1);
    }

    private static void kept() {
        InkBars x = five();
        due.is("without bars", x.kept(1), NONE);
        x.bar(45, -1, 255);
        due.is("kept(1)", x.kept(1), 5);
        due.is("kept(2)", x.kept(2), 5);
        due.is("kept(3)", x.kept(3), 15);
        due.is("kept(5)", x.kept(5), 15);
        due.is("kept(6)", x.kept(6), NONE);
        due.is("kept(0)", x.kept(0), NONE);
        due.is("kept(24)", x.kept(24), NONE);
        due.is("kept(25)", x.kept(25), NONE);
        due.is("kept(MIN)", x.kept(MIN), NONE);
        due.is("may is as it was", x.may(0), 31);
        x.bar(230, -1, 255);
        due.is("200 more than bob", x.kept(3), 200);
        due.is("odds are as they were", x.odds(0, NONE), 0);
        x.lifted(0, 0, 230);
        due.is("whatever the habit", x.kept(3), 200);
        due.is("whatever the habit: 1", x.kept(1), 190);
        InkBars y = five();
        y.bar(231, -1, 255);
        due.is("201 more than bob", y.kept(3), NONE);
        due.is("191 more than ivan", y.kept(2), 191);
        InkBars z = five();
        z.bar(30, -1, 255);
        due.is("0 more than bob", z.kept(3), 0);
        due.is("ink less than ivan", z.kept(4), NONE);
        z.bar(42, -1, 255);
        due.is("each bar: 2", z.kept(2), 2);
        z.tie(0, 0, 1);
        due.is("the same", z.kept(2), 12);
    }

    private static void said() {
        InkBars x = five();
        due.is("without bars", x.said(0, 1, 0), NONE);
        x.bar(45, -1, 255);
        // Weights 2 3 5 7 1 of 18: ivan has 388.8 thousandths.
        due.is("388: a name", x.said(0, 388, 0), 2);
        due.is("388: ivan", x.said(0, 388, 1), 3);
        due.is("389: nothing", x.said(0, 389, 0), 4);
        due.is("389: which", x.said(0, 389, 1), NONE);
        int[][] wrong = {{1, 1, 0}, {-1, 1, 0}, {0, 0, 0}, {0, 1001, 0}, {0, 1, -1}, {0, 1, 2}, {MIN, 1, 0}, {0, MAX, 0},
            {0, 1, MAX}};
        for (int[] w : wrong) {
            due.is("said(" + w[0] + ", " + w[1] + ", " + w[2] + ")", x.said(w[0], w[1], w[2]), NONE);
        }
        Due.rules(x, "0(s=1)");
        due.is("ann, eve, ivan: half", x.said(0, 500, 0), 2);
        due.is("ann, eve, ivan: just half", x.said(0, 500, 1), 3);
        due.is("ann, eve, ivan: 501", x.said(0, 501, 0), 3);
        due.is("ann, eve, ivan: of sort 1", x.said(0, 501, 1), 1);
        Due.rules(x, "0(n=4&s=1)");
        due.is("ivan", x.said(0, 1000, 0), 1);
        due.is("ivan: who", x.said(0, 1000, 1), 3);
        Due.rules(x, "0(n=5)");
        due.is("nobody", x.said(0, 1, 0), 0);
        due.is("nobody: who", x.said(0, 1, 1), NONE);
        InkBars y = Due.withNames("ox", "ax", "by");
        y.bar(20, -1, 255);
        due.is("a third each: the lowest number", y.said(0, 333, 1), 0);
        due.is("a third each: 333", y.said(0, 333, 0), 2);
        due.is("a third each: 334", y.said(0, 334, 0), 3);
        due.is("a third each: sort 0", y.said(0, 334, 1), 0);
        y.bar(20, -1, 255);
        y.listed(1, NONE, 0);
        due.is("ax, by: half each", y.said(1, 500, 0), 2);
        due.is("ax, by: the lowest number", y.said(1, 500, 1), 1);
    }

    private static InkBars sheets() {
        InkBars x = new InkBars();
        Due.sheet(x, 500, "ab cd ef");
        Due.sheet(x, 500, "gh ij");
        Due.sheet(x, 500, "a b c d e f g h i j k l m n o p q r s t u v w x");
        return x;
    }

    private static void copy() {
        InkBars x = new InkBars();
        due.is("no sheet", x.copy(0, 0, 0, 0), NONE);
        x = sheets();
        int[][] wrong = {{-1, 0, 0, 0}, {3, 0, 0, 0}, {0, -1, 0, 0}, {0, 10000, 0, 0}, {0, 0, -1, 0}, {0, 0, 4, 0},
            {0, 0, 0, 8}, {0, 0, 0, -1}, {1, 0, 0, 4}, {2, 0, 0, 1 << 24}, {MAX, 0, 0, 0}, {0, MAX, 0, 0}, {0, 0, 0, MIN}};
        for (int[] w : wrong) {
            due.is("copy of wrong arguments", x.copy(w[0], w[1], w[2], w[3]), NONE);
        }
        due.is("none", x.count(7), 0);
        due.is("copy(0, 0, 0, 7)", x.copy(0, 0, 0, 7), 0);
        due.is("copy(2, 9999, 3, all)", x.copy(2, 9999, 3, (1 << 24) - 1), 1);
        due.is("copy(1, 0, 0, 0)", x.copy(1, 0, 0, 0), 2);
        for (int c = 3; c < 8; c++) {
            due.is("copy " + c, x.copy(0, 1, 0, 7), c);
        }
        due.is("a ninth", x.copy(0, 1, 0, 7), NONE);
        due.is("eight", x.count(7), 8);
    }

    private static void open() {
        InkBars x = sheets();
        due.is("no copies", x.open(0, 9999), 0);
        x.copy(0, 10, 0, 6);
        x.copy(0, 4, 1, 5);
        x.copy(1, 0, 0, 0);
        due.is("open(0, 3)", x.open(0, 3), 0);
        due.is("open(0, 4)", x.open(0, 4), 2);
        due.is("open(0, 9)", x.open(0, 9), 2);
        due.is("open(0, 10)", x.open(0, 10), 3);
        due.is("open(0, 9999)", x.open(0, 9999), 3);
        due.is("open(1, 0)", x.open(1, 0), 3);
        due.is("open(2, 9999)", x.open(2, 9999), 0);
        due.is("open(3, 0)", x.open(3, 0), NONE);
        due.is("open(-1, 0)", x.open(-1, 0), NONE);
        due.is("open(0, -1)", x.open(0, -1), NONE);
        due.is("open(0, 10000)", x.open(0, 10000), NONE);
        due.is("open(MIN, MIN)", x.open(MIN, MIN), NONE);
    }

    private static void needless() {
        InkBars x = sheets();
        due.is("no copy", x.needless(0), NONE);
        x.copy(0, 5, 0, 2);
        x.copy(0, 5, 0, 5);
        x.copy(0, 6, 0, 7);
        x.copy(1, 6, 0, 3);
        x.copy(0, 0, 0, 6);
        x.copy(0, 0, 0, 7);
        due.is("day 5: the first token was open from day 0", x.needless(0), 0);
        due.is("day 5: its own day does not count", x.needless(1), 1);
        due.is("day 6: all was open", x.needless(2), 7);
        due.is("another sheet", x.needless(3), 0);
        due.is("day 0", x.needless(4), 0);
        due.is("day 0, another", x.needless(5), 0);
        due.is("needless(6)", x.needless(6), NONE);
        due.is("needless(-1)", x.needless(-1), NONE);
        due.is("needless(MAX)", x.needless(MAX), NONE);
    }

    private static void since() {
        InkBars x = sheets();
        due.is("no copies", x.since(0, 0), NONE);
        x.copy(0, 10, 0, 6);
        x.copy(0, 4, 1, 5);
        x.copy(0, 7, 1, 5);
        x.copy(0, 9, 1, 4);
        due.is("since(0, 0)", x.since(0, 0), 9);
        due.is("since(0, 1)", x.since(0, 1), 4);
        due.is("since(0, 2)", x.since(0, 2), NONE);
        due.is("since(1, 0)", x.since(1, 0), NONE);
        due.is("since(0, 3)", x.since(0, 3), NONE);
        due.is("since(0, -1)", x.since(0, -1), NONE);
        due.is("since(3, 0)", x.since(3, 0), NONE);
        due.is("since(-1, 0)", x.since(-1, 0), NONE);
        due.is("since(MAX, MAX)", x.since(MAX, MAX), NONE);
        x.copy(0, 0, 0, 0);
        due.is("since day 0", x.since(0, 2), 0);
        x.copy(2, 9999, 0, 1);
        due.is("token 23", x.since(2, 23), 9999);
        due.is("token 24", x.since(2, 24), NONE);
        due.is("token 32", x.since(2, 32), NONE);
    }

    private static void twice() {
        InkBars x = sheets();
        x.copy(0, 1, 0, 6);
        x.copy(0, 1, 0, 3);
        x.copy(1, 1, 0, 3);
        x.copy(0, 9, 2, 1);
        due.is("twice(0, 1)", x.twice(0, 1), 2);
        due.is("twice(1, 0)", x.twice(1, 0), 2);
        due.is("twice(0, 3)", x.twice(0, 3), 0);
        due.is("twice(0, 2)", x.twice(0, 2), NONE);
        due.is("twice(0, 0)", x.twice(0, 0), NONE);
        due.is("twice(0, 4)", x.twice(0, 4), NONE);
        due.is("twice(4, 0)", x.twice(4, 0), NONE);
        due.is("twice(-1, 0)", x.twice(-1, 0), NONE);
        due.is("twice(MIN, MAX)", x.twice(MIN, MAX), NONE);
    }

    private static void stricter() {
        InkBars x = sheets();
        due.is("no copies", x.stricter(0, 1), NONE);
        x.copy(0, 1, 0, 1);
        x.copy(1, 1, 1, 1);
        due.is("no sheet of both", x.stricter(0, 1), NONE);
        x.copy(0, 2, 1, 1);
        due.is("alike", x.stricter(0, 1), 0);
        x.copy(0, 3, 0, 2);
        due.is("by all copies together", x.stricter(0, 1), 1);
        due.is("the other way", x.stricter(1, 0), 0);
        x.copy(1, 1, 0, 0);
        due.is("less on another sheet", x.stricter(0, 1), 0);
        due.is("the other way: less, too", x.stricter(1, 0), 0);
        x.copy(1, 1, 0, 1);
        due.is("alike on another sheet", x.stricter(0, 1), 1);
        x.copy(2, 1, 1, 255);
        due.is("a sheet of one alone", x.stricter(0, 1), 1);
        due.is("stricter(0, 0)", x.stricter(0, 0), NONE);
        due.is("stricter(0, 2)", x.stricter(0, 2), NONE);
        due.is("stricter(0, 4)", x.stricter(0, 4), NONE);
        due.is("stricter(4, 0)", x.stricter(4, 0), NONE);
        due.is("stricter(-1, 0)", x.stricter(-1, 0), NONE);
        due.is("stricter(MIN, MAX)", x.stricter(MIN, MAX), NONE);
    }

    private static void note() {
        InkBars x = new InkBars();
        due.is("no sheet", x.note(1, 0), false);
        for (int s = 0; s < 4; s++) {
            Due.sheet(x, 500, "ab");
        }
        int[][] wrong = {{0, 0}, {41, 0}, {-1, 0}, {1, -1}, {1, 4}, {MIN, 0}, {MAX, 0}, {1, MAX}};
        for (int[] w : wrong) {
            due.is("note(" + w[0] + ", " + w[1] + ")", x.note(w[0], w[1]), false);
        }
        due.is("note(9, 1)", x.note(9, 1), true);
        due.is("the sheet has one", x.note(10, 1), false);
        due.is("the same again", x.note(9, 1), false);
        due.is("as great, behind", x.note(9, 2), false);
        due.is("less, behind", x.note(8, 3), false);
        due.is("as great, ahead", x.note(9, 0), false);
        due.is("greater, ahead", x.note(10, 0), false);
        due.is("note(40, 3)", x.note(40, 3), true);
        due.is("between: as great as the next", x.note(40, 2), false);
        due.is("between: as great as the one before", x.note(9, 2), false);
        due.is("between", x.note(10, 2), true);
        due.is("note(1, 0)", x.note(1, 0), true);
        due.is("count(8)", x.count(8), 4);
    }

    private static void missing() {
        InkBars x = new InkBars();
        for (int s = 0; s < 6; s++) {
            Due.sheet(x, 500, "ab");
        }
        due.is("no notes", x.missing(1, 0), NONE);
        x.note(5, 1);
        x.note(7, 2);
        x.note(20, 4);
        int[][] want = {{1, 0, 1}, {4, 0, 1}, {6, 1, 2}, {8, 2, 4}, {19, 2, 4}};
        for (int[] w : want) {
            due.is("missing(" + w[0] + ", 0)", x.missing(w[0], 0), w[1]);
            due.is("missing(" + w[0] + ", 1)", x.missing(w[0], 1), w[2]);
        }
        int[][] none = {{5, 0}, {7, 1}, {20, 0}, {21, 0}, {40, 1}, {41, 0}, {0, 0}, {-1, 1}, {6, 2}, {6, -1}, {MIN, 0},
            {MAX, 0}};
        for (int[] w : none) {
            due.is("missing(" + w[0] + ", " + w[1] + ")", x.missing(w[0], w[1]), NONE);
        }
        x.note(21, 5);
        due.is("next to each other", x.missing(20, 0), NONE);
        due.is("the last", x.missing(19, 1), 4);
        InkBars y = new InkBars();
        Due.sheet(y, 500, "ab");
        y.note(3, 0);
        due.is("0, when each sheet has a note", y.missing(0, 0), NONE);
        due.is("1, when each sheet has a note", y.missing(1, 1), 0);
    }

    private static void check() {
        InkBars x = five();
        due.is("no bar", x.check(0, 0), -2);
        x.bar(39, -1, 255);
        // ann 2, bob 3, eve 5.
        Due.numbers(x, 0, 2, 1, 3, 2, 5);
        due.is("check(0, 6)", x.check(0, 6), -2);
        due.is("check(0, -1)", x.check(0, -1), -2);
        due.is("check(1, 3)", x.check(1, 3), -2);
        due.is("check(-1, 3)", x.check(-1, 3), -2);
        due.is("check(0, MAX)", x.check(0, MAX), -2);
        due.is("check(0, MIN)", x.check(0, MIN), -2);
        due.is("check(0, 1 << 29)", x.check(0, 1 << 29), -2);
        due.is("tape stays", x.count(9), 40);
        due.is("right", x.check(0, 3), NONE);
        due.is("tape is empty", x.count(9), 0);
        int[][] told = {{0, 2, 1, 3}, {0, 2, 1, 3, 2, 4}, {0, 2, 1, 3, 3, 5}, {1, 3, 0, 2, 2, 5}, {0, 3, 1, 3, 2, 5},
            {0, 2, 1, 3, 2, 5, 3, 7}, {0, 2, 2, 5}, {}};
        int[] want = {4, 5, 4, 0, 1, 6, 2, 0};
        for (int t = 0; t < told.length; t++) {
            Due.numbers(x, told[t]);
            due.is("check " + t, x.check(0, told[t].length / 2), want[t]);
            due.is("tape is empty behind check " + t, x.count(9), 0);
        }
        Due.numbers(x, 0, 2, 1, 3, 2, 5, 0, 0, 0, 0, 0, 0, 0, 0, 0);
        due.is("eight twos of sixty bytes", x.check(0, 8), -2);
        due.is("seven twos of sixty bytes", x.check(0, 7), 6);
        Due.feed(x, "bytes that stay not");
        due.is("none told of three", x.check(0, 0), 0);
        due.is("tape is empty behind none", x.count(9), 0);
        x.bar(3000, -1, 255);
        due.is("nothing fits, none told", x.check(0, 0), NONE);
        Due.numbers(x, 0, 0);
        due.is("nothing fits, one told", x.check(0, 1), 0);
        // Odds beyond 32 bits: 22 other names of weight 100 under three more bars.
        InkBars y = new InkBars();
        for (int i = 0; i < 24; i++) {
            Due.name(y, "a" + (char) ('a' + i), 0, 0, 0, 100);
        }
        y.bar(20, -1, 255);
        for (int k = 1; k < 4; k++) {
            y.bar(20, -1, 255);
        }
        Due.rules(y, "0(i=7)");
        long odds = 100L * 2400 * 2400 * 2400;
        due.is("odds beyond 32 bits", y.odds(0, 7), odds);
        Due.numbers(y, 7, (int) odds);
        due.is("by its lowest 32 bits", y.check(0, 1), NONE);
        Due.numbers(y, 7, (int) odds + 1);
        due.is("not so", y.check(0, 1), 1);
    }

    private static void count() {
        InkBars x = five();
        x.bar(35, -1, 255);
        x.bar(35, -1, 255);
        Due.sheet(x, 500, "ab/0 1/cd");
        Due.sheet(x, 500, "ab");
        Due.rules(x, "0(n>0);1(n>0);2(n>0)");
        x.tie(1, 0, 1);
        x.listed(0, NONE, NONE);
        x.listed(1, NONE, NONE);
        x.lifted(0, 0, 30);
        x.copy(0, 0, 0, 0);
        x.copy(0, 0, 0, 0);
        x.copy(0, 0, 0, 0);
        x.note(1, 0);
        x.feed(0, 0, 0, 0, 0);
        x.house(3);
        int[] want = {5, 2, 2, 3, 1, 2, 1, 3, 1, 20, 3};
        for (int what = 0; what <= 10; what++) {
            due.is("count(" + what + ")", x.count(what), want[what]);
        }
        due.is("count(20)", x.count(20), 4);
        due.is("count(21)", x.count(21), 1);
        due.is("count(30)", x.count(30), 3);
        due.is("count(31)", x.count(31), 1);
        int[] none = {-1, 11, 19, 22, 25, 26, 29, 32, 35, 36, 40, MIN, MAX};
        for (int what : none) {
            due.is("count(" + what + ")", x.count(what), NONE);
        }
    }
}
