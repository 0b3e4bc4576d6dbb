import java.util.ArrayList;
import java.util.List;
import java.util.Random;
import java.util.function.Consumer;

/**
 * Objects with all 24 names, two to four bars, up to six sheets, and ties and lists: every row of names is judged by
 * itself, and what is asked of all fillings is held against these rows.
 */
public final class FullRoomTest {
    private static final Due due = new Due("full room");
    private static final int NAMES = 24;
    // So many rows are judged by one object, which then has had 512 calls at most.
    private static final int ROWS_OF_ONE = 250;

    private final Random random;
    private final Model model = new Model();
    private final List<Consumer<InkBars>> told = new ArrayList<>();
    private final int seed;
    private final int bars;
    private final int rows;
    private final int[] truth;
    private final int[] inks;
    private final int[] weights = new int[NAMES];
    private final int[] judged;

    private FullRoomTest(int seed, int bars) {
        this.seed = seed;
        this.bars = bars;
        random = new Random(seed);
        rows = (int) Math.pow(NAMES, bars);
        truth = new int[bars];
        inks = new int[bars];
        judged = new int[rows];
    }

    public static void main(String[] args) {
        int runs = args.length > 0 ? Integer.parseInt(args[0]) : 120;
        long fillings = 0;
        for (int seed = 0; seed < runs && due.good(); seed++) {
            FullRoomTest one = new FullRoomTest(seed, seed % 30 == 0 ? 4 : 2 + seed % 2);
            one.tellAll();
            one.judgeAll();
            one.ask();
            fillings += one.standing(0);
        }
        System.out.println("fillings in all: " + fillings);
        due.end();
    }

    private int pick(int n) {
        return random.nextInt(n);
    }

    private boolean oneIn(int n) {
        return pick(n) == 0;
    }

    private void is(String call, long got, long want) {
        due.is("seed " + seed + ": " + call, got, want);
    }

    private InkBars fresh() {
        InkBars x = new InkBars();
        for (Consumer<InkBars> call : told) {
            call.accept(x);
        }
        return x;
    }

    // ---- telling: nothing is told that is against the true row ----

    private void tellAll() {
        for (int n = pick(12); n > 0; n--) {
            tellLetters();
        }
        while (model.count(0) < NAMES) {
            tellName();
        }
        while (model.count(1) < bars) {
            tellBar(model.count(1));
        }
        for (int n = oneIn(2) ? pick(5) : 0; n > 0; n--) {
            tellLifted();
        }
        for (int n = pick(oneIn(2) ? 2 : 7); n > 0; n--) {
            tellSheet();
        }
        for (int n = oneIn(8) ? 20 : pick(3); n > 0; n--) {
            tellTie();
        }
        for (int n = oneIn(8) ? 20 : pick(3); n > 0; n--) {
            tellListed();
        }
        for (int n = pick(oneIn(2) ? 2 : 9); n > 0; n--) {
            tellRules();
        }
    }

    private void tellLetters() {
        if (oneIn(2)) {
            int letter = pick(27);
            int n = 1 + pick(30);
            model.width(letter, n);
            told.add(x -> x.width(letter, n));
        } else {
            int a = 1 + pick(20);
            int b = 1 + pick(20);
            int n = pick(41) - 20;
            model.joined(a, b, n);
            told.add(x -> x.joined(a, b, n));
        }
    }

    private String word(int most) {
        StringBuilder s = new StringBuilder();
        for (int n = 1 + pick(most); n > 0; n--) {
            s.append("abeinorstz".charAt(pick(10)));
        }
        return s.toString();
    }

    private void feedModel(String text) {
        int[] v = Due.ints(text);
        for (int i = 0; i < v.length; i += 5) {
            model.feed(v[i], v[i + 1], v[i + 2], v[i + 3], v[i + 4]);
        }
    }

    private void tellName() {
        String word = word(oneIn(4) ? 12 : 5);
        int sort = pick(4);
        int from = pick(60);
        int to = from + pick(100);
        int weight = oneIn(3) ? 100 : 1 + pick(100);
        feedModel(word);
        int i = model.name(word.length(), sort, from, to, weight);
        if (i >= 0) {
            weights[i] = weight;
            told.add(x -> Due.name(x, word, sort, from, to, weight));
        }
    }

    private void tellBar(int k) {
        int i = pick(NAMES);
        truth[k] = i;
        inks[k] = Math.max(1, model.wide(i) + pick(21));
        int year = oneIn(3) ? model.from(i) + pick(model.to(i) - model.from(i) + 1) : InkBars.NONE;
        int sorts = oneIn(2) ? 255 : 1 << model.sort(i) | pick(256);
        model.bar(inks[k], year, sorts);
        told.add(x -> x.bar(inks[k], year, sorts));
    }

    /** Habits from 0 or less to 20 or more, so that the true row stays. */
    private void tellLifted() {
        int i = pick(NAMES);
        int[] mores = {-pick(30), 20 + pick(60)};
        for (int more : mores) {
            int ink = Math.max(1, model.wide(i) + more);
            model.lifted(0, i, ink);
            told.add(x -> x.lifted(0, i, ink));
        }
    }

    private void tellSheet() {
        StringBuilder s = new StringBuilder();
        for (int n = oneIn(3) ? 12 : 1 + pick(8); n > 0; n--) {
            s.append(s.length() == 0 ? "" : " ").append(oneIn(6) ? word(4) + "x" : articleAndBar());
        }
        int wide = oneIn(5) ? 800 : 60 + pick(240);
        int[] under = new int[4];
        System.arraycopy(truth, 0, under, 0, bars);
        String text = model.broken(wide, s.toString(), under);
        if (text.length() <= 160) {
            feedModel(text);
            model.sheet(wide, text.length());
            told.add(x -> Due.sheet(x, wide, text));
        }
    }

    private String articleAndBar() {
        int k = pick(bars);
        String article = "aeiou".indexOf(model.word(truth[k]).charAt(0)) >= 0 ? "an" : "a";
        return (oneIn(12) ? article : word(3) + "x") + " " + k;
    }

    private void tellTie() {
        int first = pick(bars);
        int second = (first + 1 + pick(bars - 1)) % bars;
        int order = model.word(truth[first]).compareTo(model.word(truth[second]));
        int sort = order == 0 ? 0 : order < 0 && oneIn(2) ? 2 : 1;
        model.tie(sort, first, second);
        told.add(x -> x.tie(sort, first, second));
    }

    private void tellListed() {
        int k = pick(bars);
        int i = pick(NAMES);
        int order = model.word(i).compareTo(model.word(truth[k]));
        int behind = order < 0 ? i : InkBars.NONE;
        int ahead = order > 0 ? i : InkBars.NONE;
        model.listed(k, behind, ahead);
        told.add(x -> x.listed(k, behind, ahead));
    }

    private void tellRules() {
        String text = new RuleTexts(random).text();
        if (Model.fault(text) != 0) {
            return;
        }
        String before = model.rulesText();
        model.putRules(text);
        boolean stands = true;
        for (int k = 0; k < bars; k++) {
            stands &= (model.against(k, truth[k]) & 8) == 0;
        }
        model.putRules(before);
        if (stands) {
            model.putRules(text);
            told.add(x -> Due.rules(x, text));
        }
    }

    // ---- rows ----

    /** The row as it is told to an object: with 24 names, the digits of r are those of the row. */
    private void judgeAll() {
        for (int r = 0; r < rows; r += ROWS_OF_ONE) {
            InkBars x = fresh();
            for (int row = r; row < Math.min(r + ROWS_OF_ONE, rows); row++) {
                judged[row] = x.judge(row);
            }
        }
        for (int row = pick(200); row < rows; row += 1 + rows / 150) {
            is("judge(" + row + ")", judged[row], model.judge(row));
        }
        InkBars x = fresh();
        for (int n = 0; n < 40; n++) {
            int s = pick(6);
            int row = pick(rows);
            int l = pick(6);
            is("line(" + s + ", " + row + ", " + l + ")", x.line(s, row, l), model.line(s, row, l));
        }
    }

    private static int under(int row, int k) {
        int rest = row;
        for (int q = 0; q < k; q++) {
            rest /= NAMES;
        }
        return rest % NAMES;
    }

    private int standing(int without) {
        int many = 0;
        for (int row = 0; row < rows; row++) {
            many += (judged[row] & ~without) == 0 ? 1 : 0;
        }
        return many;
    }

    private long worth(int row) {
        long worth = 1;
        for (int k = 0; k < bars; k++) {
            worth *= weights[under(row, k)];
        }
        return worth;
    }

    private long[][] odds() {
        long[][] odds = new long[bars][NAMES];
        for (int row = 0; row < rows; row++) {
            for (int k = 0; k < bars && judged[row] == 0; k++) {
                odds[k][under(row, k)] += worth(row);
            }
        }
        return odds;
    }

    /** For each habit 0 to H, which names each bar may have: in each row the greatest of INK less WIDTH counts. */
    private int kept(int m) {
        int[][] may = new int[201][bars];
        for (int row = 0; row < rows; row++) {
            int least = Integer.MAX_VALUE;
            int greatest = Integer.MIN_VALUE;
            for (int k = 0; k < bars; k++) {
                int more = inks[k] - model.wide(under(row, k));
                least = Math.min(least, more);
                greatest = Math.max(greatest, more);
            }
            for (int k = 0; k < bars && (judged[row] & ~1) == 0 && least >= 0 && greatest <= 200; k++) {
                may[greatest][k] |= 1 << under(row, k);
            }
        }
        int[] all = new int[bars];
        for (int h = 0; h <= 200; h++) {
            boolean good = true;
            for (int k = 0; k < bars; k++) {
                all[k] |= may[h][k];
                good &= Integer.bitCount(all[k]) >= m;
            }
            if (good) {
                return h;
            }
        }
        return InkBars.NONE;
    }

    // ---- asking ----

    private void ask() {
        InkBars x = fresh();
        int best = 1;
        for (int without = 0; without < 64; without++) {
            is("fillings(" + without + ")", x.fillings(without), standing(without));
        }
        for (int reason = 1; reason < 64; reason *= 2) {
            best = standing(reason) > standing(best) ? reason : best;
        }
        is("given()", x.given(), best);
        int[] numbers = {1, 2, 3, 5, 8, 13, 24};
        for (int m : numbers) {
            is("kept(" + m + ")", x.kept(m), kept(m));
        }
        long[][] odds = odds();
        for (int k = 0; k < bars; k++) {
            askBar(x, k, odds[k]);
        }
    }

    private void askBar(InkBars x, int k, long[] odds) {
        int may = 0;
        int best = 0;
        long all = 0;
        List<Integer> right = new ArrayList<>();
        for (int i = 0; i < NAMES; i++) {
            is("odds(" + k + ", " + i + ")", x.odds(k, i), odds[i]);
            all += odds[i];
            best = odds[i] > odds[best] ? i : best;
            if (odds[i] > 0) {
                may |= 1 << i;
                right.add(i);
                right.add((int) odds[i]);
            }
        }
        is("odds(" + k + ", NONE)", x.odds(k, InkBars.NONE), all);
        is("may(" + k + ")", x.may(k), may);
        // The true row stands, so that there is a filling.
        int told = (int) Math.min(1000, odds[best] * 1000 / Math.max(all, 1));
        boolean sure = right.size() == 2;
        is("said(" + k + ", " + told + ", 0)", x.said(k, Math.max(told, 1), 0), sure ? 1 : 2);
        is("said(" + k + ", " + told + ", 1)", x.said(k, Math.max(told, 1), 1), best);
        int sort = oneSort(may);
        if (!sure && told < 1000) {
            is("said(" + k + ", more, 0)", x.said(k, told + 1, 0), sort >= 0 ? 3 : 4);
            is("said(" + k + ", more, 1)", x.said(k, told + 1, 1), sort);
        }
        askCheck(x, k, right);
    }

    private int oneSort(int may) {
        int sort = InkBars.NONE;
        for (int i = 0; i < NAMES; i++) {
            if ((may >> i & 1) != 0) {
                if (sort >= 0 && sort != model.sort(i)) {
                    return InkBars.NONE;
                }
                sort = model.sort(i);
            }
        }
        return sort;
    }

    private void askCheck(InkBars x, int k, List<Integer> right) {
        int[] numbers = right.stream().mapToInt(Integer::intValue).toArray();
        Due.numbers(x, numbers);
        is("check(" + k + ") of what is right", x.check(k, numbers.length / 2), InkBars.NONE);
        int place = pick(numbers.length);
        numbers[place] ^= 1 << pick(32);
        Due.numbers(x, numbers);
        is("check(" + k + ") with one wrong", x.check(k, numbers.length / 2), place);
    }
}
