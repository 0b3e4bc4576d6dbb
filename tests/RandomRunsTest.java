import java.util.ArrayList;
import java.util.List;
import java.util.Random;

/** Runs of calls drawn from fixed seeds, each answer held against the model's. */
public final class RandomRunsTest {
    private static final String[] CHOSEN = {"a", "an", "the", "saw", "bob", "anna", "ox", "by", "of", "abcdefghijkl"};
    private static final Due due = new Due("random runs");
    // How often a run met what: 0 to 5 each reason that gives away, 6 none and 7 some that is kept, 8 to 12 what is said.
    private static final int[] met = new int[13];

    private final Random random;
    private final InkBars bars = new InkBars();
    private final Model model = new Model();
    private final int seed;
    private final int mostNames;
    private final int mostBars;
    // A gentle run has names that are truly under the bars, and tells nothing that is against them.
    private final boolean gentle;
    private final int[] truth = new int[4];
    private int calls;

    private RandomRunsTest(int seed) {
        this.seed = seed;
        random = new Random(seed);
        gentle = !oneIn(4);
        mostBars = 1 + pick(4);
        mostNames = mostBars == 4 ? 3 + pick(2) : 3 + pick(5);
    }

    public static void main(String[] args) {
        int runs = args.length > 0 ? Integer.parseInt(args[0]) : 1200;
        for (int seed = 0; seed < runs && due.good(); seed++) {
            new RandomRunsTest(seed).run();
        }
        System.out.println("given, by reason: " + shown(0, 6) + "; kept, none or some: " + shown(6, 8) + "; said, 0 to 4: "
            + shown(8, 13));
        for (int m : met) {
            due.is("each is met", args.length > 0 || m > 20, true);
        }
        due.end();
    }

    private static String shown(int from, int to) {
        StringBuilder s = new StringBuilder();
        for (int m = from; m < to; m++) {
            s.append(m == from ? "" : " ").append(met[m]);
        }
        return s.toString();
    }

    private int pick(int n) {
        return random.nextInt(n);
    }

    private boolean oneIn(int n) {
        return pick(n) == 0;
    }

    /** Mostly from a to b, now and then next to it or far off. */
    private int about(int a, int b) {
        if (oneIn(15)) {
            int[] odd = {a - 1, b + 1, -1, 0, Integer.MAX_VALUE, Integer.MIN_VALUE, a, b};
            return odd[pick(odd.length)];
        }
        return a + pick(Math.max(1, b - a + 1));
    }

    private void is(String call, long got, long want) {
        calls++;
        due.is("seed " + seed + ", call " + calls + ": " + call, got, want);
    }

    private void is(String call, boolean got, boolean want) {
        is(call, got ? 1 : 0, want ? 1 : 0);
    }

    private void run() {
        if (gentle) {
            setUp();
        }
        for (int step = 0; step < 45 && due.good(); step++) {
            tell();
            if (oneIn(3)) {
                ask();
            }
        }
        for (int step = 0; step < 40 && due.good(); step++) {
            ask();
            if (oneIn(4)) {
                tell();
            }
        }
        askAllRows();
    }

    private void setUp() {
        for (int step = pick(6); step > 0; step--) {
            letters();
        }
        for (int step = 0; step < 20 && model.count(0) < mostNames; step++) {
            tellName();
        }
        for (int step = 0; step < 20 && model.count(1) < mostBars; step++) {
            tellBar();
        }
    }

    private void letters() {
        if (oneIn(2)) {
            tellWidth();
        } else {
            tellJoined();
        }
    }

    private boolean againstTruth() {
        int row = 0;
        for (int k = model.count(1) - 1; k >= 0; k--) {
            row = 24 * row + truth[k];
        }
        return gentle && model.count(1) > 0 && model.judge(row) > 0;
    }

    private void askAllRows() {
        int names = model.count(0);
        int rows = (int) Math.pow(names, model.count(1));
        for (int r = 0; r < rows && due.good(); r += 1 + rows / 40) {
            int row = 0;
            int rest = r;
            int place = 1;
            for (int k = 0; k < model.count(1) && names > 0; k++) {
                row += place * (rest % names);
                rest /= names;
                place *= 24;
            }
            is("judge(" + row + ")", bars.judge(row), model.judge(row));
            int s = pick(6);
            int l = pick(5);
            is("line(" + s + ", " + row + ", " + l + ")", bars.line(s, row, l), model.line(s, row, l));
        }
    }

    private void feed(String text) {
        feed(Due.ints(text));
    }

    private void feed(int[] v) {
        for (int i = 0; i + 4 < v.length; i += 5) {
            is("feed", bars.feed(v[i], v[i + 1], v[i + 2], v[i + 3], v[i + 4]),
                model.feed(v[i], v[i + 1], v[i + 2], v[i + 3], v[i + 4]));
        }
    }

    // ---- telling ----

    private void tell() {
        int what = pick(18);
        switch (what) {
            case 0: case 1: case 2: tellName(); break;
            case 3: case 4: tellBar(); break;
            case 5: case 6: tellSheet(); break;
            case 7: tellRules(); break;
            case 8: case 9:
                if (!gentle || oneIn(30)) {
                    letters();
                }
                break;
            case 10: tellTie(); break;
            case 11: tellListed(); break;
            case 12:
                if (oneIn(2)) {
                    tellLifted();
                }
                break;
            case 13: {
                int k = gentle && !oneIn(9) ? 0 : about(0, 3);
                is("house(" + k + ")", bars.house(k), model.house(k));
                break;
            }
            case 14: case 15: tellCopy(); break;
            case 16: {
                int n = about(1, 40);
                int s = about(0, 5);
                is("note(" + n + ", " + s + ")", bars.note(n, s), model.note(n, s));
                break;
            }
            default:
                if (oneIn(6)) {
                    feed(new int[] {pick(24), pick(9), random.nextInt(), 7, 8});
                }
        }
    }

    private String word() {
        StringBuilder s = new StringBuilder();
        int length = oneIn(10) ? 12 : 1 + pick(5);
        for (int i = 0; i < length; i++) {
            s.append("abeinorstz".charAt(pick(10)));
        }
        return s.toString();
    }

    private void tellName() {
        if (model.count(0) >= mostNames) {
            return;
        }
        String word = oneIn(5) ? CHOSEN[pick(CHOSEN.length)] : word();
        if (oneIn(15)) {
            word = word.substring(0, word.length() - 1) + "`{A1 "
                .charAt(pick(5));
        }
        feed(word);
        int n = oneIn(20) ? about(1, 12) : word.length();
        int sort = oneIn(4) ? about(0, 7) : pick(2);
        int from = about(0, 60);
        int to = oneIn(15) ? about(0, 199) : from + about(0, 100);
        int weight = about(1, 100);
        is("name(" + n + ") " + word, bars.name(n, sort, from, to, weight), model.name(n, sort, from, to, weight));
    }

    private void tellBar() {
        if (model.count(1) >= mostBars && !(mostBars == 4 && oneIn(4))) {
            return;
        }
        int ink = oneIn(12) ? about(1, 3000) : Math.max(model.wide(pick(mostNames)), 20) + pick(15);
        int year = oneIn(3) ? about(0, 199) : oneIn(2) ? -1 : about(20, 80);
        int sorts = oneIn(6) ? about(0, 255) : 255;
        if (gentle && model.count(0) > 0 && model.count(1) < 4) {
            int i = pick(model.count(0));
            truth[model.count(1)] = i;
            ink = Math.max(1, model.wide(i) + pick(21));
            year = oneIn(2) ? -1 : model.from(i) + pick(model.to(i) - model.from(i) + 1);
            sorts = oneIn(2) ? 255 : 1 << model.sort(i) | pick(256);
        }
        is("bar(" + ink + ", " + year + ", " + sorts + ")", bars.bar(ink, year, sorts), model.bar(ink, year, sorts));
    }

    private void tellSheet() {
        StringBuilder s = new StringBuilder();
        int tokens = oneIn(12) ? 20 + pick(7) : 1 + pick(9);
        for (int t = 0; t < tokens; t++) {
            boolean bar = model.count(1) > 0 && oneIn(3);
            s.append(t == 0 ? "" : " ");
            s.append(bar ? "" + pick(model.count(1)) : oneIn(2) ? CHOSEN[gentle ? 2 + pick(4) : pick(3)] : word());
        }
        int wide = oneIn(8) ? about(50, 5000) : 60 + pick(200);
        int[] under = new int[4];
        for (int k = 0; k < 4; k++) {
            under[k] = gentle ? truth[k] : pick(Math.max(1, model.count(0)));
        }
        String text = model.count(0) == 0 ? s.toString() : model.broken(wide, s.toString(), under);
        if (oneIn(gentle ? 20 : 6)) {
            text = spoilt(text, " /ab09A`{:");
        }
        feed(text);
        int n = oneIn(30) ? about(1, 160) : text.length();
        is("sheet(" + wide + ", " + n + ") " + text, bars.sheet(wide, n), model.sheet(wide, n));
    }

    private String spoilt(String text, String signs) {
        int at = pick(text.length());
        String sign = "" + signs.charAt(pick(signs.length()));
        switch (pick(4)) {
            case 0: return text.substring(0, at) + sign + text.substring(at);
            case 1: return text.substring(0, at) + sign + text.substring(at + 1);
            case 2: return text.length() > 1 ? text.substring(0, at) + text.substring(at + 1) : text;
            default: return text.substring(0, Math.max(at, 1));
        }
    }

    private void tellRules() {
        String text = new RuleTexts(random).text();
        if (Model.fault(text) == 0) {
            String before = model.rulesText();
            model.putRules(text);
            boolean spoils = againstTruth();
            model.putRules(before);
            if (spoils && !oneIn(8)) {
                return;
            }
        }
        feed(text);
        int n = oneIn(30) ? about(1, 160) : text.length();
        int got = bars.rules(n);
        is("rules(" + n + ") " + text, got, model.rules(n));
    }

    private void tellWidth() {
        int letter = about(0, 26);
        int n = about(1, 60);
        is("width(" + letter + ", " + n + ")", bars.width(letter, n), model.width(letter, n));
    }

    private void tellJoined() {
        int a = oneIn(2) ? 1 : about(1, 26);
        int b = oneIn(2) ? 14 : about(1, 26);
        int n = about(-20, 20);
        is("joined(" + a + ", " + b + ", " + n + ")", bars.joined(a, b, n), model.joined(a, b, n));
    }

    private void tellTie() {
        if (model.count(4) > 2 && !oneIn(8)) {
            return;
        }
        int sort = about(0, 2);
        int x = about(0, Math.max(0, model.count(1) - 1));
        int y = about(0, Math.max(0, model.count(1) - 1));
        boolean want = model.tie(sort, x, y);
        if (want && againstTruth() && !oneIn(8)) {
            model.dropTie();
            return;
        }
        is("tie(" + sort + ", " + x + ", " + y + ")", bars.tie(sort, x, y), want);
    }

    private void tellListed() {
        if (model.count(5) > 2 && !oneIn(8)) {
            return;
        }
        int k = about(0, Math.max(0, model.count(1) - 1));
        int a = oneIn(2) ? -1 : about(-1, model.count(0) - 1);
        int b = oneIn(2) ? -1 : about(-1, model.count(0) - 1);
        boolean want = model.listed(k, a, b);
        if (want && againstTruth() && !oneIn(8)) {
            model.dropListed();
            return;
        }
        is("listed(" + k + ", " + a + ", " + b + ")", bars.listed(k, a, b), want);
    }

    private void tellLifted() {
        int h = oneIn(3) ? about(0, 3) : 0;
        int name = about(0, Math.max(0, model.count(0) - 1));
        int ink = oneIn(6) ? about(1, 3000) : Math.max(1, model.wide(Math.max(0, name)) + pick(25));
        boolean want = model.lifted(h, name, ink);
        if (want && againstTruth() && !oneIn(8)) {
            model.dropLifted();
            return;
        }
        is("lifted(" + h + ", " + name + ", " + ink + ")", bars.lifted(h, name, ink), want);
    }

    private void tellCopy() {
        int s = about(0, 3);
        int day = oneIn(9) ? about(0, 9999) : pick(6);
        int h = about(0, 3);
        int all = (1 << Math.max(0, model.count(20 + Math.floorMod(s, 6)))) - 1;
        int covered = oneIn(20) ? about(0, all) : random.nextInt() & all;
        is("copy(" + s + ", " + day + ", " + h + ", " + covered + ")", bars.copy(s, day, h, covered),
            model.copy(s, day, h, covered));
    }

    // ---- asking ----

    private void ask() {
        int k = about(0, Math.max(0, model.count(1) - 1));
        int i = about(0, Math.max(0, model.count(0) - 1));
        int s = about(0, 5);
        int what = pick(23);
        switch (what) {
            case 0: is("wide(" + i + ")", bars.wide(i), model.wide(i)); break;
            case 1: {
                int h = about(0, 3);
                int w = about(0, 1);
                is("habit(" + h + ", " + w + ")", bars.habit(h, w), model.habit(h, w));
                break;
            }
            case 2: case 3: is("against(" + k + ", " + i + ")", bars.against(k, i), model.against(k, i)); break;
            case 4: {
                int row = about(0, 600);
                is("judge(" + row + ")", bars.judge(row), model.judge(row));
                break;
            }
            case 5: case 6: case 7: {
                int without = oneIn(3) ? 0 : about(0, 63);
                is("fillings(" + without + ")", bars.fillings(without), model.fillings(without));
                break;
            }
            case 8: is("may(" + k + ")", bars.may(k), model.may(k)); break;
            case 9: case 10: is("odds(" + k + ", " + i + ")", bars.odds(k, i), model.odds(k, i)); break;
            case 11: is("odds(" + k + ", NONE)", bars.odds(k, -1), model.odds(k, -1)); break;
            case 12: {
                int got = bars.given();
                if (got > 0) {
                    met[Integer.numberOfTrailingZeros(got)]++;
                }
                is("given()", got, model.given());
                break;
            }
            case 13: {
                int m = about(1, 4);
                int got = bars.kept(m);
                met[got < 0 ? 6 : 7]++;
                is("kept(" + m + ")", got, model.kept(m));
                break;
            }
            case 14: case 15: {
                int thousandths = oneIn(3) ? about(1, 1000) : 100 * (1 + pick(9));
                int got = bars.said(k, thousandths, 0);
                if (got >= 0) {
                    met[8 + got]++;
                }
                is("said(" + k + ", " + thousandths + ", 0)", got, model.said(k, thousandths, 0));
                is("said(" + k + ", " + thousandths + ", 1)", bars.said(k, thousandths, 1),
                    model.said(k, thousandths, 1));
                break;
            }
            case 16: {
                int day = oneIn(3) ? about(0, 9999) : pick(6);
                is("open(" + s + ", " + day + ")", bars.open(s, day), model.open(s, day));
                int t = about(0, 5);
                is("since(" + s + ", " + t + ")", bars.since(s, t), model.since(s, t));
                break;
            }
            case 17: {
                int x = about(0, 7);
                int y = about(0, 7);
                is("needless(" + x + ")", bars.needless(x), model.needless(x));
                is("twice(" + x + ", " + y + ")", bars.twice(x, y), model.twice(x, y));
                break;
            }
            case 18: {
                int a = about(0, 3);
                int b = about(0, 3);
                is("stricter(" + a + ", " + b + ")", bars.stricter(a, b), model.stricter(a, b));
                break;
            }
            case 19: {
                int n = about(1, 40);
                int w = about(0, 1);
                is("missing(" + n + ", " + w + ")", bars.missing(n, w), model.missing(n, w));
                break;
            }
            case 20: askCheck(k); break;
            case 21: askBetweenWidths(); break;
            default: {
                int w = oneIn(3) ? about(0, 36) : pick(11);
                is("count(" + w + ")", bars.count(w), model.count(w));
            }
        }
    }

    /** Asks while a letter is of another width, and when it is as it was. */
    private void askBetweenWidths() {
        int letter = pick(3) * pick(10);
        int before = model.letter(letter);
        for (int n : new int[] {1 + pick(20), before}) {
            is("width(" + letter + ", " + n + ")", bars.width(letter, n), model.width(letter, n));
            is("fillings(0)", bars.fillings(0), model.fillings(0));
            is("odds(0, NONE)", bars.odds(0, -1), model.odds(0, -1));
            is("fillings(2)", bars.fillings(2), model.fillings(2));
        }
    }

    private void askCheck(int k) {
        List<Integer> right = new ArrayList<>();
        for (int i = 0; i < model.count(0); i++) {
            if (model.odds(k, i) > 0) {
                right.add(i);
                right.add((int) model.odds(k, i));
            }
        }
        if (!right.isEmpty() && oneIn(3)) {
            int at = pick(right.size());
            right.set(at, right.get(at) + pick(3) - 1);
        }
        int[] v = new int[(right.size() + 4) / 5 * 5];
        for (int i = 0; i < right.size(); i++) {
            v[i] = right.get(i);
        }
        feed(v);
        int n = oneIn(4) ? about(0, 3) : right.size() / 2;
        is("check(" + k + ", " + n + ")", bars.check(k, n), model.check(k, n));
    }
}
