/** Each sentence that names a boundary case of what is told: promises 1 to 7 and 10 to 14. */
public final class EdgesToldTest {
    private static final int NONE = InkBars.NONE;
    private static final int MIN = Integer.MIN_VALUE;
    private static final int MAX = Integer.MAX_VALUE;
    private static final Due due = new Due("edges of what is told");

    public static void main(String[] args) {
        constant();
        newObject();
        ownMemory();
        lastCall();
        letters();
        letterWidths();
        blankWidth();
        widthOfWhich();
        joinedBounds();
        joinedLetters();
        joinedOrder();
        wordWidth();
        feedBytes();
        feedHighest();
        feedFull();
        nameLengths();
        nameAlike();
        nameNoLetters();
        nameNumbers();
        nameRefused();
        nameShort();
        years();
        alphabet();
        wide();
        barBounds();
        barYear();
        barSorts();
        barFull();
        tieSorts();
        tieRefused();
        tieSense();
        listedBounds();
        listedSense();
        liftedBounds();
        habitBounds();
        habitNone();
        habitRefused();
        house();
        due.end();
    }

    private static InkBars withBars(int many, int ink, String... words) {
        InkBars x = Due.withNames(words);
        for (int k = 0; k < many; k++) {
            x.bar(ink, NONE, 255);
        }
        return x;
    }

    private static void constant() {
        due.sentence("`NONE = -1`: There is none.");
        due.is("NONE", InkBars.NONE, -1);
    }

    // ---- promise 1 ----

    private static void newObject() {
        due.sentence("`InkBars()`: No NAMES, BARS, SHEETS.");
        InkBars x = new InkBars();
        for (int what = 0; what <= 9; what++) {
            due.is("count(" + what + ")", x.count(what), 0);
        }
        due.is("wide(0)", x.wide(0), NONE);
        due.is("may(0)", x.may(0), NONE);
        due.is("line(0, 0, 0)", x.line(0, 0, 0), NONE);
        due.is("open(0, 0)", x.open(0, 0), NONE);
        due.is("needless(0)", x.needless(0), NONE);
        due.sentence("(none at first)");
        Due.name(x, "ann", 0, 0, 199, 1);
        x.bar(30, NONE, 255);
        due.is("no rules are against ann", x.against(0, 0), 0);
        due.is("no clauses", x.count(3), 0);
    }

    private static void ownMemory() {
        due.sentence("All memory is the reader's own.");
        InkBars x = withBars(1, 30, "ann");
        InkBars y = withBars(1, 30, "bob", "eve");
        x.width(1, 60);
        x.joined(2, 15, 20);
        x.lifted(0, 0, 3000);
        Due.rules(x, "0(n=9)");
        x.house(3);
        Due.sheet(x, 50, "a 0");
        due.is("another object's widths", y.wide(0), 30);
        due.is("another object's house", y.count(10), 0);
        due.is("another object's habit", y.habit(0, 1), 20);
        due.is("another object's names", y.count(0), 2);
        due.is("another object's sheets", y.count(2), 0);
        due.is("another object's fillings", y.may(0), 3);
    }

    private static void lastCall() {
        due.sentence("An object is used for at most 512 calls after it has been made");
        InkBars x = withBars(2, 30, "ann", "bob");
        x.tie(1, 0, 1);
        for (int call = 8; call <= 512; call++) {
            boolean narrow = call / 4 % 2 == 0;
            switch (call % 4) {
                case 0: due.is("call " + call, x.width(1, narrow ? 9 : 10), true); break;
                case 1: due.is("call " + call, x.wide(0), narrow ? 29 : 30); break;
                case 2: due.is("call " + call, x.fillings(0), 2); break;
                default: due.is("call " + call, x.judge(24), 0);
            }
        }
    }

    // ---- promise 2 ----

    private static void letters() {
        due.sentence("LETTERS are a to z");
        InkBars x = Due.withNames("a", "z");
        due.is("a and z", x.count(0), 2);
        due.is("the sign ahead of a", Due.name(x, "`", 0, 0, 0, 1), -2);
        due.is("the sign behind z", Due.name(x, "{", 0, 0, 0, 1), -2);
        x.width(1, 11);
        x.width(26, 36);
        due.is("letter 1 is a", x.wide(0), 11);
        due.is("letter 26 is z", x.wide(1), 36);
    }

    private static void letterWidths() {
        due.sentence("each a WIDTH (1 to 60; 10 at first)");
        for (int letter = 1; letter <= 26; letter++) {
            String call = "letter " + letter;
            InkBars x = Due.withNames("" + (char) (96 + letter), letter == 1 ? "b" : "a");
            due.is(call + " at first", x.wide(0), 10);
            due.is(call + " 1", x.width(letter, 1), true);
            due.is(call + " is 1", x.wide(0), 1);
            due.is(call + " 60", x.width(letter, 60), true);
            due.is(call + " is 60", x.wide(0), 60);
            due.is(call + " 0", x.width(letter, 0), false);
            due.is(call + " 61", x.width(letter, 61), false);
            due.is(call + " -1", x.width(letter, -1), false);
            due.is(call + " MIN", x.width(letter, MIN), false);
            due.is(call + " MAX", x.width(letter, MAX), false);
            due.is(call + " is still 60", x.wide(0), 60);
            due.is(call + " is another one's no more", x.wide(1), 10);
        }
    }

    private static void blankWidth() {
        due.sentence("THE BLANK too (1 to 60; 10 at first)");
        InkBars x = new InkBars();
        Due.sheet(x, 100, "abcde abcd");
        due.is("10 at first: 50 10 40 stands", x.line(0, 0, 1), NONE);
        due.is("width(0, 11)", x.width(0, 11), true);
        due.is("11: 101 does not", x.line(0, 0, 1), 1);
        due.is("width(0, 61)", x.width(0, 61), false);
        due.is("width(0, 0)", x.width(0, 0), false);
        due.is("width(0, -1)", x.width(0, -1), false);
        due.is("width(0, MIN)", x.width(0, MIN), false);
        due.is("width(0, MAX)", x.width(0, MAX), false);
        due.is("still 11", x.line(0, 0, 1), 1);
        due.is("width(0, 1)", x.width(0, 1), true);
        Due.sheet(x, 91, "abcde abcd");
        Due.sheet(x, 90, "abcde abcd");
        due.is("1: 91 stands in 91", x.line(1, 0, 1), NONE);
        due.is("1: 91 does not in 90", x.line(2, 0, 1), 1);
        due.is("width(0, 60)", x.width(0, 60), true);
        Due.sheet(x, 150, "abcde abcd");
        Due.sheet(x, 149, "abcde abcd");
        due.is("60: 150 stands in 150", x.line(3, 0, 1), NONE);
        due.is("60: 150 does not in 149", x.line(4, 0, 1), 1);
    }

    private static void widthOfWhich() {
        due.sentence("The WIDTH of a letter (1 to 26; 0 THE BLANK): true; false: no such ones.");
        InkBars x = Due.withNames("abcdefghijkl", "mnopqrstuvwx", "yz");
        int[] none = {-1, 27, 97, 122, MIN, MAX};
        for (int letter : none) {
            due.is("width(" + letter + ", 5)", x.width(letter, 5), false);
        }
        due.is("width(0, 60)", x.width(0, 60), true);
        due.is("a to l", x.wide(0), 120);
        due.is("m to x", x.wide(1), 120);
        due.is("y and z", x.wide(2), 20);
    }

    // ---- promise 3 ----

    private static void joinedBounds() {
        due.sentence("(-20 to 20; 0 at first)");
        InkBars x = Due.withNames("ab");
        due.is("at first", x.wide(0), 20);
        due.is("joined(1, 2, -20)", x.joined(1, 2, -20), true);
        due.is("-20", x.wide(0), 0);
        due.is("joined(1, 2, 20)", x.joined(1, 2, 20), true);
        due.is("20, in place of -20", x.wide(0), 40);
        int[] none = {-21, 21, MIN, MAX};
        for (int n : none) {
            due.is("joined(1, 2, " + n + ")", x.joined(1, 2, n), false);
        }
        due.is("still 20", x.wide(0), 40);
        due.is("joined(1, 2, 0)", x.joined(1, 2, 0), true);
        due.is("0 again", x.wide(0), 20);
    }

    private static void joinedLetters() {
        due.sentence("JOINED: letter b right behind letter a (1 to 26): true; false: no such ones.");
        InkBars x = Due.withNames("aa", "az", "za", "zz");
        int[][] edges = {{1, 1}, {1, 26}, {26, 1}, {26, 26}};
        for (int e = 0; e < 4; e++) {
            due.is("joined " + e, x.joined(edges[e][0], edges[e][1], e + 1), true);
        }
        for (int e = 0; e < 4; e++) {
            due.is("wide(" + e + ")", x.wide(e), 21 + e);
        }
        int[] none = {-1, 0, 27, 28, MIN, MAX};
        for (int letter : none) {
            due.is("joined(" + letter + ", 1, 9)", x.joined(letter, 1, 9), false);
            due.is("joined(1, " + letter + ", 9)", x.joined(1, letter, 9), false);
        }
        for (int e = 0; e < 4; e++) {
            due.is("still wide(" + e + ")", x.wide(e), 21 + e);
        }
    }

    private static void joinedOrder() {
        due.sentence("of two letters, one right behind the other, so much is added");
        InkBars x = Due.withNames("ab", "ba", "acb", "abab");
        x.joined(1, 2, 7);
        due.is("ab", x.wide(0), 27);
        due.is("ba: the other way", x.wide(1), 20);
        due.is("acb: one is between", x.wide(2), 30);
        due.is("abab: twice", x.wide(3), 54);
    }

    private static void wordWidth() {
        due.sentence("of its letters, and what is added for each that stands behind another one.");
        InkBars x = Due.withNames("a", "aa", "aaaaaaaaaaaa", "b");
        x.joined(1, 1, -20);
        due.is("a: behind none", x.wide(0), 10);
        due.is("aa: one", x.wide(1), 0);
        due.is("twelve: eleven", x.wide(2), 120 - 220);
        x.joined(2, 1, 20);
        due.is("a name's first letter is not behind the last one of another", x.wide(0), 10);
        Due.sheet(x, 50, "ab ab");
        due.is("a word's first letter neither: 20 10 20", x.line(0, 0, 1), NONE);
        x.joined(1, 1, 20);
        x.width(1, 60);
        due.is("the widest", x.wide(2), 720 + 220);
    }

    // ---- promise 4 ----

    private static void feedBytes() {
        due.sentence("Twenty bytes come behind the tape");
        InkBars x = new InkBars();
        due.is("the first", x.feed(0x61206220, 0x63206420, 0x65206620, 0x67206820, 0x69206a20), 20);
        due.is("the second", x.feed(0x6b206c20, 0x6d206e20, 0x6f207020, 0x71207220, 0x73207420), 40);
        due.is("count(9)", x.count(9), 40);
        due.is("a sheet of all but the last", x.sheet(50, 39), 0);
        due.is("its tokens", x.count(20), 20);
    }

    private static void feedHighest() {
        due.sentence("the highest of each int first");
        InkBars x = new InkBars();
        x.feed(0x61626364, 0x65666768, 0x696a6b6c, 0, 0);
        due.is("abcdefghijkl", x.name(12, 0, 0, 0, 1), 0);
        due.is("the same, letter by letter", Due.name(x, "abcdefghijkl", 0, 0, 0, 1), -2);
        x.feed(0x7a000000, 0, 0, 0, 0);
        due.is("z", x.name(1, 0, 0, 0, 1), 1);
        x.feed(0x0000007a, 0, 0, 0, 0);
        due.is("a byte of 0", x.name(1, 0, 0, 0, 1), -2);
        x.feed(0xff616161, 0, 0, 0, 0);
        due.is("a byte of 255", x.name(1, 0, 0, 0, 1), -2);
    }

    private static void feedFull() {
        due.sentence("NONE if that would be more than 400.");
        InkBars x = withBars(1, 30, "ann");
        for (int i = 0; i < 19; i++) {
            due.is("feed " + i, x.feed(i, i, i, i, i), 20 * i + 20);
        }
        due.is("a twentieth fills it", x.feed(-1, -1, -1, -1, -1), 400);
        due.is("a 21st", x.feed(0, 0, 0, 0, 0), NONE);
        due.is("and once more", x.feed(0, 0, 0, 0, 0), NONE);
        due.is("count(9)", x.count(9), 400);
        due.is("the last bytes can be read: 0 0 is told, 0 1 is right", x.check(0, 50), 1);
        due.is("empty then", x.count(9), 0);
        due.is("it takes again", x.feed(0, 0, 0, 0, 0), 20);
    }

    // ---- promise 5 ----

    private static void nameLengths() {
        due.sentence("A NAME by the first n bytes of the tape (1 to 12; empty then): its number");
        InkBars x = new InkBars();
        for (int n = 1; n <= 12; n++) {
            Due.feed(x, "abcdefghijkl0000");
            due.is("name of " + n, x.name(n, 0, 0, 0, 1), n - 1);
            due.is("it has " + n + " letters", x.wide(n - 1), 10 * n);
            due.is("the tape is empty", x.count(9), 0);
        }
        Due.feed(x, "zbcdefghijklm");
        int[] none = {0, 13, -1, 14, 20, MIN, MAX};
        for (int n : none) {
            due.is("name(" + n + ")", x.name(n, 0, 0, 0, 1), NONE);
        }
        due.is("the tape stays", x.count(9), 20);
        due.is("name(12)", x.name(12, 0, 0, 0, 1), 12);
    }

    private static void nameAlike() {
        due.sentence("WORDS of one to twelve letters, no two alike");
        InkBars x = new InkBars();
        due.is("abc", Due.name(x, "abc", 1, 2, 3, 4), 0);
        due.is("ab", Due.name(x, "ab", 1, 2, 3, 4), 1);
        due.is("abcd", Due.name(x, "abcd", 1, 2, 3, 4), 2);
        due.is("abd", Due.name(x, "abd", 1, 2, 3, 4), 3);
        due.is("bbc", Due.name(x, "bbc", 1, 2, 3, 4), 4);
        due.is("abcdefghijkl", Due.name(x, "abcdefghijkl", 1, 2, 3, 4), 5);
        due.is("abcdefghijkm: the twelfth letter", Due.name(x, "abcdefghijkm", 1, 2, 3, 4), 6);
        due.sentence("-2: they are no letters, another one is alike");
        String[] told = {"abc", "ab", "abcd", "abd", "bbc", "abcdefghijkl", "abcdefghijkm"};
        for (String word : told) {
            due.is(word + " again, of another sort", Due.name(x, word, 7, 0, 199, 100), -2);
            due.is("the tape is empty", x.count(9), 0);
        }
        due.is("names", x.count(0), 7);
    }

    private static void nameNoLetters() {
        due.sentence("-2: they are no letters");
        for (int sign = 0; sign < 256; sign++) {
            boolean letter = sign >= 'a' && sign <= 'z';
            String s = "" + (char) sign;
            InkBars x = new InkBars();
            due.is("sign " + sign + " alone", Due.name(x, s, 0, 0, 0, 1), letter ? 0 : -2);
            due.is("empty then", x.count(9), 0);
            due.is("sign " + sign + " first", Due.name(x, s + "bq", 0, 0, 0, 1), letter ? 1 : -2);
            due.is("sign " + sign + " last", Due.name(x, "qcdefghijkb" + s, 0, 0, 0, 1), letter ? 2 : -2);
            due.is("names with sign " + sign, x.count(0), letter ? 3 : 0);
            due.is("a name behind them", Due.name(x, "good", 0, 0, 0, 1), letter ? 3 : 0);
            due.is("its width", x.wide(letter ? 3 : 0), 40);
        }
    }

    private static void nameNumbers() {
        due.sentence("a SORT (0 to 7), YEARS from one to another (0 to 199, both too), a WEIGHT (1 to 100)");
        InkBars x = new InkBars();
        due.is("the least", Due.name(x, "a", 0, 0, 0, 1), 0);
        due.is("the greatest", Due.name(x, "b", 7, 199, 199, 100), 1);
        due.is("all years", Due.name(x, "c", 7, 0, 199, 100), 2);
        Due.feed(x, "d");
        int[][] none = {{-1, 0, 0, 1}, {8, 0, 0, 1}, {MIN, 0, 0, 1}, {MAX, 0, 0, 1}, {0, -1, 0, 1}, {0, MIN, 0, 1},
            {0, 0, 200, 1}, {0, 0, MAX, 1}, {0, 200, 200, 1}, {0, 1, 0, 1}, {0, 199, 198, 1}, {0, 0, -1, 1}, {0, 0, 0, 0},
            {0, 0, 0, 101}, {0, 0, 0, -1}, {0, 0, 0, MIN}, {0, 0, 0, MAX}};
        for (int[] v : none) {
            due.is("name(1, " + v[0] + ", " + v[1] + ", " + v[2] + ", " + v[3] + ")", x.name(1, v[0], v[1], v[2], v[3]), NONE);
        }
        due.is("the tape stays", x.count(9), 20);
        due.is("d", x.name(1, 0, 0, 0, 1), 3);
    }

    private static void nameRefused() {
        due.sentence("NAMES 0 to 23");
        InkBars x = new InkBars();
        for (int i = 0; i < 24; i++) {
            due.is("name " + i, Due.name(x, "" + (char) ('a' + i), 0, 0, 0, 1), i);
        }
        due.is("wide(23)", x.wide(23), 10);
        due.sentence("NONE: no such ones, 24 are there, it has not so many (the tape stays).");
        due.is("a 25th", Due.name(x, "y", 0, 0, 0, 1), NONE);
        due.is("the tape stays", x.count(9), 20);
        due.is("a 25th that is alike is not even read", x.name(1, 0, 0, 0, 1), NONE);
        due.is("one of no letters neither", x.name(2, 0, 0, 0, 1), NONE);
        due.is("the tape stays, too", x.count(9), 20);
        due.is("24 names", x.count(0), 24);
        due.is("wide(24)", x.wide(24), NONE);
    }

    private static void nameShort() {
        due.sentence("it has not so many (the tape stays)");
        InkBars x = new InkBars();
        due.is("of an empty tape", x.name(1, 0, 0, 0, 1), NONE);
        Due.feed(x, "abcdefghijkl");
        due.is("of the rest of a tape that was read", x.name(12, 0, 0, 0, 1), 0);
        due.is("there is no rest", x.name(1, 0, 0, 0, 1), NONE);
        due.is("one name", x.count(0), 1);
    }

    private static void years() {
        due.sentence("YEARS from one to another (0 to 199, both too)");
        int[] told = {0, 9, 10, 11, 12, 199};
        int[] may = {1, 1, 11, 6, 4, 4};
        for (int y = 0; y < told.length; y++) {
            InkBars x = new InkBars();
            Due.name(x, "a", 0, 0, 10, 1);
            Due.name(x, "b", 0, 10, 11, 1);
            Due.name(x, "c", 0, 11, 199, 1);
            Due.name(x, "d", 0, 10, 10, 1);
            x.bar(10, told[y], 255);
            due.is("year " + told[y], x.may(0), may[y]);
        }
    }

    private static void alphabet() {
        due.sentence("By THE ALPHABET: letter by letter, what ends first is ahead.");
        String[] inOrder = {"a", "aa", "ab", "aba", "abaz", "abb", "abcdefghijkl", "abcdefghijkm", "b", "z", "za", "zz"};
        int[] mixed = {5, 0, 11, 3, 8, 1, 7, 10, 2, 6, 4, 9};
        String[] words = new String[12];
        for (int i = 0; i < 12; i++) {
            words[i] = inOrder[mixed[i]];
        }
        InkBars x = withBars(2, 60, words);
        x.tie(2, 0, 1);
        for (int i = 0; i < 12; i++) {
            for (int j = 0; j < 12; j++) {
                boolean ahead = mixed[i] < mixed[j];
                due.is(words[i] + " ahead of " + words[j], x.judge(i + 24 * j) & 16, ahead ? 0 : 16);
            }
        }
    }

    // ---- promise 6 ----

    private static void wide() {
        due.sentence("The WIDTH of NAME i; NONE: no such one.");
        InkBars x = new InkBars();
        due.is("wide(0) of none", x.wide(0), NONE);
        Due.name(x, "a", 0, 0, 0, 1);
        Due.name(x, "abc", 0, 0, 0, 1);
        due.is("wide(0)", x.wide(0), 10);
        due.is("wide(1)", x.wide(1), 30);
        int[] none = {-1, 2, 23, 24, MIN, MAX};
        for (int i : none) {
            due.is("wide(" + i + ")", x.wide(i), NONE);
        }
    }

    // ---- promise 7 ----

    private static void barBounds() {
        due.sentence("its INK (1 to 3000), a YEAR or none, SORTS (bits 0 to 255)");
        int[][] good = {{1, -1, 0}, {3000, 199, 255}, {1, 0, 128}, {3000, -1, 1}};
        InkBars x = new InkBars();
        for (int k = 0; k < 4; k++) {
            due.is("bar " + k, x.bar(good[k][0], good[k][1], good[k][2]), k);
        }
        InkBars y = new InkBars();
        int[][] none = {{0, 0, 0}, {-1, 0, 0}, {3001, 0, 0}, {MIN, 0, 0}, {MAX, 0, 0}, {1, 200, 0}, {1, -2, 0}, {1, MIN, 0},
            {1, MAX, 0}, {1, 0, -1}, {1, 0, 256}, {1, 0, MIN}, {1, 0, MAX}};
        for (int[] v : none) {
            due.is("bar(" + v[0] + ", " + v[1] + ", " + v[2] + ")", y.bar(v[0], v[1], v[2]), NONE);
        }
        due.is("no bar", y.count(1), 0);
        InkBars z = Due.withNames("a");
        z.width(1, 1);
        z.bar(1, NONE, 255);
        z.bar(3000, NONE, 255);
        due.is("an ink of 1", z.against(0, 0), 0);
        z.lifted(0, 0, 3000);
        due.is("an ink of 3000", z.against(1, 0), 0);
    }

    private static void barYear() {
        due.sentence("A BAR (year NONE: none): its number");
        InkBars x = new InkBars();
        Due.name(x, "a", 0, 0, 0, 1);
        Due.name(x, "b", 0, 1, 199, 1);
        x.bar(10, NONE, 255);
        x.bar(10, 0, 255);
        x.bar(10, 199, 255);
        due.is("no year: all", x.may(0), 3);
        due.is("the year 0", x.may(1), 1);
        due.is("the year 199", x.may(2), 2);
    }

    private static void barSorts() {
        due.sentence("SORTS (that of the NAME is not among them)");
        for (int sort = 0; sort <= 7; sort++) {
            InkBars x = new InkBars();
            Due.name(x, "a", sort, 0, 0, 1);
            x.bar(10, NONE, 1 << sort);
            x.bar(10, NONE, 255 - (1 << sort));
            x.bar(10, NONE, 0);
            x.bar(10, NONE, 255);
            due.is("its own sort", x.against(0, 0), 0);
            due.is("all others", x.against(1, 0), 32);
            due.is("none", x.against(2, 0), 32);
            due.is("all", x.against(3, 0), 0);
        }
    }

    private static void barFull() {
        due.sentence("BARS 0 to 3, each told once, in this order");
        InkBars x = Due.withNames("ab");
        for (int k = 0; k < 4; k++) {
            due.is("bar " + k, x.bar(k + 1, NONE, 255), k);
            due.is("bar " + k + " is there", x.may(k), 0);
            due.is("bar " + (k + 1) + " is not", x.may(k + 1), NONE);
        }
        due.sentence("NONE: no such ones, 4 are there.");
        due.is("a fifth", x.bar(5, NONE, 255), NONE);
        due.is("four", x.count(1), 4);
        Due.rules(x, "3(b=4)");
        due.is("the ink of bar 3 is as told", x.against(3, 0), 1);
    }

    // ---- promise 10 ----

    private static void tieSorts() {
        due.sentence("A TIE (0 to 2) of BARS x and y: true");
        InkBars x = withBars(4, 10, "a", "b");
        due.is("tie(0, 0, 3)", x.tie(0, 0, 3), true);
        due.is("tie(1, 3, 1)", x.tie(1, 3, 1), true);
        due.is("tie(2, 2, 0)", x.tie(2, 2, 0), true);
        due.is("b a a b", x.judge(1 + 24 * 24 * 24), 0);
        due.is("fillings", x.fillings(0), 1);
        int[] none = {-1, 3, MIN, MAX};
        for (int sort : none) {
            due.is("tie(" + sort + ", 0, 1)", x.tie(sort, 0, 1), false);
        }
        due.is("three ties", x.count(4), 3);
    }

    private static void tieRefused() {
        due.sentence("false: no such ones, one twice, 20 were told.");
        InkBars x = new InkBars();
        due.is("without bars", x.tie(0, 0, 1), false);
        x.bar(10, NONE, 255);
        due.is("with one bar", x.tie(0, 0, 1), false);
        due.is("with one bar, the other way", x.tie(0, 1, 0), false);
        x.bar(10, NONE, 255);
        int[] none = {-1, 2, 3, 4, MIN, MAX};
        for (int k : none) {
            due.is("tie(0, " + k + ", 0)", x.tie(0, k, 0), false);
            due.is("tie(0, 0, " + k + ")", x.tie(0, 0, k), false);
            due.is("tie(0, " + k + ", " + k + ")", x.tie(0, k, k), false);
        }
        for (int sort = 0; sort <= 2; sort++) {
            due.is("one twice: tie(" + sort + ", 0, 0)", x.tie(sort, 0, 0), false);
            due.is("one twice: tie(" + sort + ", 1, 1)", x.tie(sort, 1, 1), false);
        }
        due.is("no ties", x.count(4), 0);
        due.sentence("TIES (20 at most)");
        Due.name(x, "a", 0, 0, 0, 1);
        Due.name(x, "b", 0, 0, 0, 1);
        for (int t = 0; t < 20; t++) {
            due.is("tie " + t, x.tie(t < 19 ? 1 : 2, 1, 0), true);
            due.is("count(4)", x.count(4), t + 1);
        }
        due.is("a 21st", x.tie(0, 0, 1), false);
        due.is("twenty", x.count(4), 20);
        due.is("the twentieth counts, the 21st does not", x.fillings(0), 1);
        due.is("bar 1 is ahead", x.may(1), 1);
    }

    private static void tieSense() {
        due.sentence("0 the same NAME, 1 another one, 2 that of the first is ahead by THE ALPHABET");
        int[] fillings = {3, 6, 3};
        int[] first = {7, 7, 6};
        int[] second = {7, 7, 5};
        for (int sort = 0; sort <= 2; sort++) {
            // c is name 0, a is name 1, b is name 2: not in order.
            InkBars x = withBars(2, 10, "c", "a", "b");
            x.tie(sort, 0, 1);
            due.is("fillings of tie " + sort, x.fillings(0), fillings[sort]);
            due.is("bar 0 of tie " + sort, x.may(0), first[sort]);
            due.is("bar 1 of tie " + sort, x.may(1), second[sort]);
            due.is("the same twice by tie " + sort, x.judge(0), sort == 0 ? 0 : 16);
            due.is("a, c by tie " + sort, x.judge(1), sort == 0 ? 16 : 0);
            due.is("c, a by tie " + sort, x.judge(24), sort == 1 ? 0 : 16);
        }
    }

    // ---- promise 11 ----

    private static void listedBounds() {
        due.sentence("BAR k is LISTED behind NAME a and ahead of NAME b (NONE: none): true; false: no such ones, 20 were told.");
        InkBars x = withBars(0, 10, "a", "b");
        due.is("without bars", x.listed(0, NONE, NONE), false);
        x.bar(10, NONE, 255);
        int[] noBar = {-1, 1, 3, 4, MIN, MAX};
        for (int k : noBar) {
            due.is("listed(" + k + ", 0, 1)", x.listed(k, 0, 1), false);
        }
        int[] noName = {-2, 2, 23, 24, MIN, MAX};
        for (int i : noName) {
            due.is("listed(0, " + i + ", 1)", x.listed(0, i, 1), false);
            due.is("listed(0, 0, " + i + ")", x.listed(0, 0, i), false);
        }
        due.is("none are listed", x.count(5), 0);
        due.is("nothing is against a", x.against(0, 0), 0);
        due.sentence("it is behind the first, ahead of the second by THE ALPHABET (20 at most).");
        for (int l = 0; l < 20; l++) {
            due.is("listed " + l, x.listed(0, l < 19 ? NONE : 0, NONE), true);
            due.is("count(5)", x.count(5), l + 1);
        }
        due.is("a 21st", x.listed(0, NONE, 1), false);
        due.is("twenty", x.count(5), 20);
        due.is("the twentieth counts, the 21st does not", x.may(0), 2);
    }

    private static void listedSense() {
        due.sentence("LISTED: a BAR and two NAMES (or none)");
        InkBars x = withBars(4, 30, "c", "a", "b", "ba");
        x.width(1, 20);
        x.listed(0, NONE, NONE);
        due.is("of no names: all", x.may(0), 15);
        x.listed(1, 2, NONE);
        due.is("behind b: c, ba; not b", x.may(1), 9);
        x.listed(2, NONE, 2);
        due.is("ahead of b: a; not b", x.may(2), 2);
        x.listed(3, 1, 0);
        due.is("behind a, ahead of c: b, ba", x.may(3), 12);
        x.listed(3, 2, 3);
        due.is("behind b, ahead of ba: none", x.may(3), 0);
        due.is("a of bar 3", x.against(3, 1), 16);
        due.is("what is listed of bar 3 is not of bar 0", x.against(0, 1), 0);
    }

    // ---- promises 12 to 14 ----

    private static void liftedBounds() {
        due.sentence("`boolean lifted(int house, int name, int ink)`: LIFTED: true; false: no such ones, 60 were told.");
        InkBars x = new InkBars();
        due.is("without names", x.lifted(0, 0, 1), false);
        Due.name(x, "a", 0, 0, 0, 1);
        Due.name(x, "b", 0, 0, 0, 1);
        int[] noHouse = {-1, 4, MIN, MAX};
        int[] noName = {-1, 2, 23, 24, MIN, MAX};
        int[] noInk = {0, -1, 3001, MIN, MAX};
        for (int h : noHouse) {
            due.is("lifted(" + h + ", 0, 1)", x.lifted(h, 0, 1), false);
        }
        for (int i : noName) {
            due.is("lifted(0, " + i + ", 1)", x.lifted(0, i, 1), false);
        }
        for (int ink : noInk) {
            due.is("lifted(0, 0, " + ink + ")", x.lifted(0, 0, ink), false);
        }
        due.is("none are lifted", x.count(6), 0);
        due.is("the habit is as at first", x.habit(0, 1), 20);
        due.sentence("LIFTED (60 at most)");
        for (int l = 0; l < 60; l++) {
            due.is("lifted " + l, x.lifted(l % 4, l % 2, l < 59 ? 1 : 3000), true);
            due.is("count(6)", x.count(6), l + 1);
        }
        due.is("a 61st", x.lifted(0, 0, 3000), false);
        due.is("sixty", x.count(6), 60);
        due.is("the sixtieth counts", x.habit(3, 1), 2990);
        due.is("the 61st does not", x.habit(0, 1), -9);
    }

    private static void habitBounds() {
        due.sentence("from the least to the greatest of INK less WIDTH of these NAMES");
        InkBars x = Due.withNames("a", "bb");
        x.lifted(1, 0, 13);
        due.is("one: the least", x.habit(1, 0), 3);
        due.is("one: the greatest", x.habit(1, 1), 3);
        x.lifted(1, 1, 24);
        due.is("two: the least", x.habit(1, 0), 3);
        due.is("two: the greatest", x.habit(1, 1), 4);
        x.lifted(1, 1, 1);
        due.is("three: the least", x.habit(1, 0), -19);
        x.lifted(1, 0, 10);
        due.is("one between", x.habit(1, 0), -19);
        due.is("one between: the greatest", x.habit(1, 1), 4);
        x.lifted(2, 0, 40);
        due.is("above 20 alone: the least", x.habit(2, 0), 30);
        due.is("above 20 alone: the greatest", x.habit(2, 1), 30);
        x.lifted(3, 1, 9);
        due.is("below 0 alone: the greatest", x.habit(3, 1), -11);
        due.is("below 0 alone: the least", x.habit(3, 0), -11);
    }

    private static void habitNone() {
        due.sentence("none LIFTED: 0 to 20.");
        InkBars x = Due.withNames("a");
        x.lifted(1, 0, 3000);
        for (int h = 0; h < 4; h++) {
            due.is("habit(" + h + ", 0)", x.habit(h, 0), h == 1 ? 2990 : 0);
            due.is("habit(" + h + ", 1)", x.habit(h, 1), h == 1 ? 2990 : 20);
        }
    }

    private static void habitRefused() {
        due.sentence("HABIT of a HOUSE, what 0 the least, 1 the greatest; -10000: no such ones.");
        InkBars x = new InkBars();
        int[][] none = {{-1, 0}, {4, 0}, {4, 1}, {0, -1}, {0, 2}, {3, 2}, {MIN, 0}, {MAX, 0}, {0, MIN}, {0, MAX}};
        for (int[] v : none) {
            due.is("habit(" + v[0] + ", " + v[1] + ")", x.habit(v[0], v[1]), -10000);
        }
        due.is("habit(3, 0)", x.habit(3, 0), 0);
        due.is("habit(3, 1)", x.habit(3, 1), 20);
    }

    private static void house() {
        due.sentence("THE HOUSE (one is told; 0 at first)");
        InkBars x = withBars(1, 30, "a", "bb", "ccc");
        for (int h = 0; h < 4; h++) {
            x.lifted(h, h % 3, 30);
        }
        due.is("count(10) at first", x.count(10), 0);
        due.is("by house 0: a", x.may(0), 1);
        due.sentence("`boolean house(int k)`: THE HOUSE: true; false: no such one.");
        int[] may = {1, 2, 4, 1};
        for (int h = 3; h >= 0; h--) {
            due.is("house(" + h + ")", x.house(h), true);
            due.is("count(10)", x.count(10), h);
            due.is("by house " + h, x.may(0), may[h]);
        }
        x.house(2);
        int[] none = {-1, 4, MIN, MAX};
        for (int h : none) {
            due.is("house(" + h + ")", x.house(h), false);
        }
        due.is("still house 2", x.count(10), 2);
        due.is("by house 2", x.may(0), 4);
    }
}
