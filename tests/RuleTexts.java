import java.util.Random;

/** Makes texts of rules: right ones, deep ones, long ones, and ones with a sign too many, too few or another. */
final class RuleTexts {
    private static final String SIGNS = "()[]!&|<>=+-*/%0123456789iwnsyzvabqxA;{ ~\0\u00ff";
    private final Random random;
    private boolean deep;
    private boolean digits;

    RuleTexts(Random random) {
        this.random = random;
    }

    private boolean oneIn(int n) {
        return random.nextInt(n) == 0;
    }

    String text() {
        deep = oneIn(4);
        digits = oneIn(8);
        boolean many = oneIn(10);
        StringBuilder s = new StringBuilder();
        int clauses = many ? 11 + random.nextInt(3) : 1 + random.nextInt(3);
        for (int c = 0; c < clauses; c++) {
            s.append(c == 0 ? "" : ";").append(oneIn(40) ? random.nextInt(10) : random.nextInt(4)).append('(');
            s.append(many ? "n=4" : condition(1)).append(')');
        }
        String text = s.toString();
        for (int times = oneIn(4) ? 1 + random.nextInt(2) : 0; times > 0; times--) {
            text = spoilt(text);
        }
        return text.length() > 160 ? text.substring(0, 160) : text;
    }

    private String spoilt(String text) {
        int at = random.nextInt(text.length());
        String sign = "" + SIGNS.charAt(random.nextInt(SIGNS.length()));
        switch (random.nextInt(4)) {
            case 0: return text.substring(0, at) + sign + text.substring(at);
            case 1: return text.substring(0, at) + sign + text.substring(at + 1);
            case 2: return text.length() > 1 ? text.substring(0, at) + text.substring(at + 1) : text;
            default: return text.substring(0, Math.max(at, 1));
        }
    }

    /** Whether to nest once more: often in deep texts, and then up to one too many, now and then. */
    private boolean nests(int depth) {
        return depth < 6 || depth == 6 && oneIn(30) ? oneIn(deep ? 2 : 6) : false;
    }

    private String condition(int depth) {
        StringBuilder s = new StringBuilder(part(depth));
        while (oneIn(deep ? 8 : 3)) {
            s.append('|').append(part(depth));
        }
        return s.toString();
    }

    private String part(int depth) {
        StringBuilder s = new StringBuilder(piece(depth));
        while (oneIn(deep ? 8 : 3)) {
            s.append('&').append(piece(depth));
        }
        return s.toString();
    }

    private String piece(int depth) {
        if (nests(depth)) {
            return oneIn(2) ? "!" + piece(depth + 1) : "(" + condition(depth + 1) + ")";
        }
        return sum(depth) + "<>=".charAt(random.nextInt(3)) + sum(depth);
    }

    private String sum(int depth) {
        StringBuilder s = new StringBuilder(product(depth));
        while (oneIn(4)) {
            s.append(oneIn(2) ? '+' : '-').append(product(depth));
        }
        return s.toString();
    }

    private String product(int depth) {
        StringBuilder s = new StringBuilder(factor(depth));
        while (oneIn(4)) {
            s.append("*/%".charAt(random.nextInt(3))).append(factor(depth));
        }
        return s.toString();
    }

    private String factor(int depth) {
        if (nests(depth) && oneIn(2)) {
            return "[" + sum(depth + 1) + "]";
        }
        if (oneIn(3)) {
            return "" + (oneIn(4) ? random.nextInt(digits ? 150000 : 100000) : random.nextInt(6));
        }
        return "" + "iwnsyzvab".charAt(random.nextInt(9));
    }
}
