import java.util.Random;

/** Many texts of rules: their faults, and what they say of some names, against the model's. */
public final class RulesFuzzTest {
    private static final String[] WORDS = {"an", "bob", "eve", "abcdefghijkl"};
    private static final int[] met = new int[7];

    public static void main(String[] args) {
        Due due = new Due("rules fuzz");
        for (int seed = 0; seed < 3000 && due.good(); seed++) {
            run(seed, due);
        }
        System.out.println("texts taken " + met[0] + ", faults 1 to 5: " + met[1] + " " + met[2] + " " + met[3] + " "
            + met[4] + " " + met[5] + ", answers that no clause is against: " + met[6]);
        for (int m : met) {
            due.is("each is met", m > 20, true);
        }
        due.end();
    }

    private static void run(int seed, Due due) {
        Random random = new Random(seed);
        InkBars bars = new InkBars();
        Model model = new Model();
        for (int i = 0; i < WORDS.length; i++) {
            feed(bars, model, WORDS[i]);
            int n = WORDS[i].length();
            bars.name(n, i, 2 * i, 5 * i + 1, 1 + i);
            model.name(n, i, 2 * i, 5 * i + 1, 1 + i);
        }
        for (int k = 0; k < 3; k++) {
            bars.bar(20 + 9 * k, -1, 255);
            model.bar(20 + 9 * k, -1, 255);
        }
        RuleTexts texts = new RuleTexts(random);
        for (int t = 0; t < 12; t++) {
            String text = texts.text();
            feed(bars, model, text);
            int want = model.rules(text.length());
            met[want >= 0 ? 0 : -want / 1000]++;
            due.is("seed " + seed + ": rules of " + text, bars.rules(text.length()), want);
            for (int k = 0; k < 3 && want >= 0; k++) {
                for (int i = 0; i < WORDS.length; i++) {
                    int against = model.against(k, i);
                    met[6] += 1 - (against >> 3 & 1);
                    due.is("seed " + seed + ": " + text + " over " + WORDS[i], bars.against(k, i), against);
                }
            }
        }
    }

    private static void feed(InkBars bars, Model model, String text) {
        int[] v = Due.ints(text);
        for (int i = 0; i < v.length; i += 5) {
            bars.feed(v[i], v[i + 1], v[i + 2], v[i + 3], v[i + 4]);
            model.feed(v[i], v[i + 1], v[i + 2], v[i + 3], v[i + 4]);
        }
    }
}
