import java.util.ArrayList;
import java.util.List;
import java.util.TreeSet;

/** The document once more, in the slowest and plainest way: every row of names is laid and judged. */
final class Model {
    static final int NONE = -1;

    private static final class Refused extends RuntimeException {
        private static final long serialVersionUID = 1;
    }

    private record Name(String word, int sort, int from, int to, int weight) { }

    private record Bar(int ink, int year, int sorts) { }

    private record Sheet(int wide, List<String> tokens, List<Boolean> begins) { }

    private record Copy(int s, int day, int house, int covered) { }

    private final int[] wide = new int[27];
    private final int[][] joined = new int[27][27];
    private final List<Integer> tape = new ArrayList<>();
    private final List<Name> names = new ArrayList<>();
    private final List<Bar> bars = new ArrayList<>();
    private final List<Sheet> sheets = new ArrayList<>();
    private final List<int[]> ties = new ArrayList<>();
    private final List<int[]> listed = new ArrayList<>();
    private final List<int[]> lifted = new ArrayList<>();
    private final List<Copy> copies = new ArrayList<>();
    private final int[] notes = new int[6];
    private String rules = "";
    private int house;

    Model() {
        for (int i = 0; i < 27; i++) {
            wide[i] = 10;
        }
    }

    private static boolean in(int x, int a, int b) {
        return a <= x && x <= b;
    }

    boolean width(int letter, int n) {
        if (in(letter, 0, 26) && in(n, 1, 60)) {
            wide[letter] = n;
            return true;
        }
        return false;
    }

    boolean joined(int a, int b, int n) {
        if (in(a, 1, 26) && in(b, 1, 26) && in(n, -20, 20)) {
            joined[a][b] = n;
            return true;
        }
        return false;
    }

    int feed(int a, int b, int c, int d, int e) {
        if (tape.size() + 20 > 400) {
            return NONE;
        }
        for (int v : new int[] {a, b, c, d, e}) {
            tape.add(v >>> 24);
            tape.add(v >>> 16 & 255);
            tape.add(v >>> 8 & 255);
            tape.add(v & 255);
        }
        return tape.size();
    }

    private String text(int n) {
        StringBuilder s = new StringBuilder();
        for (int i = 0; i < n; i++) {
            s.append((char) (int) tape.get(i));
        }
        tape.clear();
        return s.toString();
    }

    int name(int n, int sort, int from, int to, int weight) {
        if (!in(n, 1, 12) || !in(sort, 0, 7) || from < 0 || from > to || to > 199 || !in(weight, 1, 100)) {
            return NONE;
        }
        if (names.size() == 24 || tape.size() < n) {
            return NONE;
        }
        String word = text(n);
        for (Name other : names) {
            if (other.word.equals(word)) {
                return -2;
            }
        }
        if (!word.matches("[a-z]+")) {
            return -2;
        }
        names.add(new Name(word, sort, from, to, weight));
        return names.size() - 1;
    }

    private int width(String word) {
        int w = 0;
        for (int i = 0; i < word.length(); i++) {
            w += wide[word.charAt(i) - 96];
            if (i > 0) {
                w += joined[word.charAt(i - 1) - 96][word.charAt(i) - 96];
            }
        }
        return w;
    }

    int wide(int i) {
        return in(i, 0, names.size() - 1) ? width(names.get(i).word) : NONE;
    }

    int bar(int ink, int year, int sorts) {
        if (!in(ink, 1, 3000) || !in(year, -1, 199) || !in(sorts, 0, 255) || bars.size() == 4) {
            return NONE;
        }
        bars.add(new Bar(ink, year, sorts));
        return bars.size() - 1;
    }

    int sheet(int w, int n) {
        if (!in(w, 50, 5000) || !in(n, 1, 160) || sheets.size() == 6 || tape.size() < n) {
            return NONE;
        }
        String s = text(n);
        List<String> tokens = new ArrayList<>();
        List<Boolean> begins = new ArrayList<>();
        boolean begin = true;
        int at = 0;
        while (true) {
            int end = at;
            while (end < n && s.charAt(end) >= 'a' && s.charAt(end) <= 'z') {
                end++;
            }
            boolean digit = at < n && s.charAt(at) >= '0' && s.charAt(at) <= '9';
            if (end == at && !digit) {
                return -1000 - at;
            }
            if (tokens.size() == 24) {
                return -4000 - at;
            }
            if (end - at > 12) {
                return -2000 - at - 12;
            }
            if (digit) {
                if (s.charAt(at) - '0' >= bars.size()) {
                    return -3000 - at;
                }
                end = at + 1;
            }
            tokens.add(s.substring(at, end));
            begins.add(begin);
            if (end == n) {
                sheets.add(new Sheet(w, tokens, begins));
                return sheets.size() - 1;
            }
            if (s.charAt(end) != ' ' && s.charAt(end) != '/') {
                return -1000 - end;
            }
            begin = s.charAt(end) == '/';
            at = end + 1;
        }
    }

    // ---- rules: the faults by a stack, the answers by a tree ----

    int rules(int n) {
        if (!in(n, 1, 160) || tape.size() < n) {
            return NONE;
        }
        String s = text(n);
        int fault = fault(s);
        if (fault != 0) {
            return fault;
        }
        rules = s;
        return clauses();
    }

    private int clauses() {
        return rules.isEmpty() ? 0 : rules.split(";").length;
    }

    /** Walks sign by sign; the stack holds what is open: ( [ !, and = for a comparison whose sign was read. */
    static int fault(String s) {
        String state = "clause";
        StringBuilder stack = new StringBuilder();
        int clauses = 0;
        int digits = 0;
        for (int at = 0; at <= s.length(); at++) {
            char c = at < s.length() ? s.charAt(at) : 0;
            int one = -1000 - at;
            int open = stack.toString().replace("=", "").length();
            boolean digit = c >= '0' && c <= '9';
            switch (state) {
                case "clause":
                    if (!digit) {
                        return one;
                    }
                    if (clauses == 12) {
                        return -4000 - at;
                    }
                    if (c > '3') {
                        return -3000 - at;
                    }
                    clauses++;
                    state = "open";
                    break;
                case "open":
                    if (c != '(') {
                        return one;
                    }
                    stack.append('(');
                    state = "piece";
                    break;
                case "piece":
                case "factor":
                    if (c != 0 && (c == '[' || state.equals("piece") && (c == '!' || c == '('))) {
                        if (open == 6) {
                            return -5000 - at;
                        }
                        stack.append(c);
                        state = c == '[' ? "factor" : "piece";
                    } else if (digit) {
                        digits = 1;
                        state = "number";
                    } else if (c != 0 && "iwnsyzvab".indexOf(c) >= 0) {
                        state = "behind";
                    } else {
                        return one;
                    }
                    break;
                case "number":
                    if (digit) {
                        digits++;
                        if (digits == 6) {
                            return -2000 - at;
                        }
                        break;
                    }
                    state = "behind";
                    at--;
                    break;
                case "behind": {
                    char top = stack.charAt(stack.length() - 1);
                    if (c != 0 && "+-*/%".indexOf(c) >= 0) {
                        state = "factor";
                    } else if (top == '[') {
                        if (c != ']') {
                            return one;
                        }
                        stack.setLength(stack.length() - 1);
                    } else if (top == '=') {
                        stack.setLength(stack.length() - 1);
                        state = "ended";
                        at--;
                    } else if (c == '<' || c == '>' || c == '=') {
                        stack.append('=');
                        state = "factor";
                    } else {
                        return one;
                    }
                    break;
                }
                case "ended":
                    while (stack.charAt(stack.length() - 1) == '!') {
                        stack.setLength(stack.length() - 1);
                    }
                    if (c == '&' || c == '|') {
                        state = "piece";
                    } else if (c == ')') {
                        stack.setLength(stack.length() - 1);
                        state = stack.length() == 0 ? "closed" : "ended";
                    } else {
                        return one;
                    }
                    break;
                default:
                    if (c == 0 && at == s.length()) {
                        return 0;
                    }
                    if (c != ';') {
                        return one;
                    }
                    state = "clause";
            }
        }
        throw new IllegalStateException("the end of " + s);
    }

    /** Where the outermost one of these signs stands last (before a place), or NONE. */
    private static int last(String s, String signs) {
        int depth = 0;
        for (int at = s.length() - 1; at >= 0; at--) {
            char c = s.charAt(at);
            if (c == ')' || c == ']') {
                depth++;
            } else if (c == '(' || c == '[') {
                depth--;
            } else if (depth == 0 && signs.indexOf(c) >= 0) {
                return at;
            }
        }
        return NONE;
    }

    private boolean truth(String c, int k, int i) {
        int at = last(c, "|");
        if (at >= 0) {
            return truth(c.substring(0, at), k, i) || truth(c.substring(at + 1), k, i);
        }
        at = last(c, "&");
        if (at >= 0) {
            return truth(c.substring(0, at), k, i) && truth(c.substring(at + 1), k, i);
        }
        if (c.charAt(0) == '!') {
            return !truth(c.substring(1), k, i);
        }
        if (c.charAt(0) == '(') {
            return truth(c.substring(1, c.length() - 1), k, i);
        }
        at = last(c, "<>=");
        int left = value(c.substring(0, at), k, i);
        int right = value(c.substring(at + 1), k, i);
        return c.charAt(at) == '<' ? left < right : c.charAt(at) == '>' ? left > right : left == right;
    }

    private int value(String e, int k, int i) {
        int at = last(e, "+-");
        if (at < 0) {
            at = last(e, "*/%");
        }
        if (at >= 0) {
            int left = value(e.substring(0, at), k, i);
            int right = value(e.substring(at + 1), k, i);
            switch (e.charAt(at)) {
                case '+': return left + right;
                case '-': return left - right;
                case '*': return left * right;
                default: break;
            }
            if (right == 0) {
                throw new Refused();
            }
            return e.charAt(at) == '/' ? left / right : left % right;
        }
        if (e.charAt(0) == '[') {
            return value(e.substring(1, e.length() - 1), k, i);
        }
        Name name = names.get(i);
        switch (e.charAt(0)) {
            case 'i': return i;
            case 'w': return wide(i);
            case 'n': return name.word.length();
            case 's': return name.sort;
            case 'y': return name.from;
            case 'z': return name.to;
            case 'v': return vowel(i) ? 1 : 0;
            case 'a': return name.word.charAt(0) - 96;
            case 'b': return bars.get(k).ink;
            default: return Integer.parseInt(e);
        }
    }

    private boolean vowel(int i) {
        return "aeiou".indexOf(names.get(i).word.charAt(0)) >= 0;
    }

    private boolean rulesHold(int k, int i) {
        if (rules.isEmpty()) {
            return true;
        }
        for (String clause : rules.split(";")) {
            if (clause.charAt(0) - '0' == k) {
                try {
                    if (!truth(clause.substring(2, clause.length() - 1), k, i)) {
                        return false;
                    }
                } catch (Refused refused) {
                    return false;
                }
            }
        }
        return true;
    }

    // ---- what is told besides ----

    private boolean hasBar(int k) {
        return in(k, 0, bars.size() - 1);
    }

    private boolean hasName(int i) {
        return in(i, 0, names.size() - 1);
    }

    boolean tie(int sort, int x, int y) {
        if (!in(sort, 0, 2) || !hasBar(x) || !hasBar(y) || x == y || ties.size() == 20) {
            return false;
        }
        return ties.add(new int[] {sort, x, y});
    }

    boolean listed(int k, int a, int b) {
        if (!hasBar(k) || !(a == -1 || hasName(a)) || !(b == -1 || hasName(b)) || listed.size() == 20) {
            return false;
        }
        return listed.add(new int[] {k, a, b});
    }

    boolean lifted(int h, int name, int ink) {
        if (!in(h, 0, 3) || !hasName(name) || !in(ink, 1, 3000) || lifted.size() == 60) {
            return false;
        }
        return lifted.add(new int[] {h, name, ink});
    }

    int habit(int h, int what) {
        if (!in(h, 0, 3) || !in(what, 0, 1)) {
            return -10000;
        }
        List<Integer> more = new ArrayList<>();
        for (int[] l : lifted) {
            if (l[0] == h) {
                more.add(l[2] - wide(l[1]));
            }
        }
        if (more.isEmpty()) {
            return what == 0 ? 0 : 20;
        }
        more.sort(null);
        return what == 0 ? more.get(0) : more.get(more.size() - 1);
    }

    boolean house(int k) {
        if (in(k, 0, 3)) {
            house = k;
            return true;
        }
        return false;
    }

    // ---- reasons ----

    private int[] row(int row) {
        int[] under = new int[bars.size()];
        int rest = row;
        for (int k = 0; k < under.length; k++) {
            under[k] = Math.floorMod(rest, 24);
            rest = Math.floorDiv(rest, 24);
            if (!hasName(under[k])) {
                return null;
            }
        }
        return rest == 0 ? under : null;
    }

    private int reasons(int k, int i, int least, int greatest) {
        Name name = names.get(i);
        Bar bar = bars.get(k);
        int reasons = in(bar.ink - wide(i), least, greatest) ? 0 : 1;
        for (Sheet sheet : sheets) {
            for (int t = 1; t < sheet.tokens.size(); t++) {
                if (sheet.tokens.get(t).equals("" + k)) {
                    String before = sheet.tokens.get(t - 1);
                    if (before.equals("a") && vowel(i) || before.equals("an") && !vowel(i)) {
                        reasons |= 4;
                    }
                }
            }
        }
        if (!rulesHold(k, i)) {
            reasons |= 8;
        }
        for (int[] l : listed) {
            if (l[0] == k && l[1] >= 0 && name.word.compareTo(names.get(l[1]).word) <= 0) {
                reasons |= 16;
            }
            if (l[0] == k && l[2] >= 0 && name.word.compareTo(names.get(l[2]).word) >= 0) {
                reasons |= 16;
            }
        }
        if (bar.year >= 0 && !in(bar.year, name.from, name.to) || (bar.sorts & 1 << name.sort) == 0) {
            reasons |= 32;
        }
        return reasons;
    }

    int against(int k, int i) {
        return hasBar(k) && hasName(i) ? reasons(k, i, habit(house, 0), habit(house, 1)) : NONE;
    }

    private List<Integer> set(Sheet sheet, int[] under) {
        List<Integer> begins = new ArrayList<>();
        int across = 0;
        for (int t = 0; t < sheet.tokens.size(); t++) {
            String token = sheet.tokens.get(t);
            char c = token.charAt(0);
            int own = c <= '9' ? wide(under[c - '0']) : width(token);
            if (t > 0 && across + wide[0] + own <= sheet.wide) {
                across += wide[0] + own;
            } else {
                begins.add(t);
                across = own;
            }
        }
        return begins;
    }

    private List<Integer> begins(Sheet sheet) {
        List<Integer> begins = new ArrayList<>();
        for (int t = 0; t < sheet.tokens.size(); t++) {
            if (sheet.begins.get(t)) {
                begins.add(t);
            }
        }
        return begins;
    }

    private int judge(int[] under, int least, int greatest) {
        int reasons = 0;
        for (int k = 0; k < under.length; k++) {
            reasons |= reasons(k, under[k], least, greatest);
        }
        for (Sheet sheet : sheets) {
            if (!set(sheet, under).equals(begins(sheet))) {
                reasons |= 2;
            }
        }
        for (int[] t : ties) {
            int order = names.get(under[t[1]]).word.compareTo(names.get(under[t[2]]).word);
            if (t[0] == 0 && order != 0 || t[0] == 1 && order == 0 || t[0] == 2 && order >= 0) {
                reasons |= 16;
            }
        }
        return reasons;
    }

    int judge(int row) {
        int[] under = row(row);
        return bars.isEmpty() || under == null ? NONE : judge(under, habit(house, 0), habit(house, 1));
    }

    int line(int s, int row, int l) {
        int[] under = row(row);
        if (!in(s, 0, sheets.size() - 1) || under == null) {
            return NONE;
        }
        List<Integer> begins = set(sheets.get(s), under);
        return in(l, 0, begins.size() - 1) ? begins.get(l) : NONE;
    }

    // ---- fillings ----

    private List<int[]> all(int without, int least, int greatest) {
        List<int[]> fillings = new ArrayList<>();
        int rows = (int) Math.pow(names.size(), bars.size());
        for (int row = 0; row < rows; row++) {
            int[] under = new int[bars.size()];
            int rest = row;
            for (int k = 0; k < under.length; k++) {
                under[k] = rest % names.size();
                rest /= names.size();
            }
            if ((judge(under, least, greatest) & ~without) == 0) {
                fillings.add(under);
            }
        }
        return fillings;
    }

    private List<int[]> all() {
        return all(0, habit(house, 0), habit(house, 1));
    }

    int fillings(int without) {
        if (bars.isEmpty() || !in(without, 0, 63)) {
            return NONE;
        }
        return all(without, habit(house, 0), habit(house, 1)).size();
    }

    private static int may(int k, List<int[]> fillings) {
        int may = 0;
        for (int[] under : fillings) {
            may |= 1 << under[k];
        }
        return may;
    }

    int may(int k) {
        return hasBar(k) ? may(k, all()) : NONE;
    }

    private long odds(int k, int i, List<int[]> fillings) {
        long sum = 0;
        for (int[] under : fillings) {
            long worth = 1;
            for (int at : under) {
                worth *= names.get(at).weight;
            }
            sum += i == NONE || under[k] == i ? worth : 0;
        }
        return sum;
    }

    long odds(int k, int i) {
        return hasBar(k) && (i == NONE || hasName(i)) ? odds(k, i, all()) : NONE;
    }

    int given() {
        int best = NONE;
        for (int reason = 1; reason < 64 && !bars.isEmpty(); reason *= 2) {
            if (best == NONE || fillings(reason) > fillings(best)) {
                best = reason;
            }
        }
        return best;
    }

    int kept(int m) {
        // Only these H let a name in that the one below kept out.
        TreeSet<Integer> habits = new TreeSet<>(List.of(0));
        for (Bar bar : bars) {
            for (int i = 0; i < names.size(); i++) {
                habits.add(Math.min(Math.max(bar.ink - wide(i), 0), 201));
            }
        }
        for (int h : habits) {
            if (h > 200 || bars.isEmpty() || !in(m, 1, 24)) {
                return NONE;
            }
            List<int[]> fillings = all(0, 0, h);
            boolean good = true;
            for (int k = 0; k < bars.size(); k++) {
                good &= Integer.bitCount(may(k, fillings)) >= m;
            }
            if (good) {
                return h;
            }
        }
        return NONE;
    }

    int said(int k, int thousandths, int what) {
        if (!hasBar(k) || !in(thousandths, 1, 1000) || !in(what, 0, 1)) {
            return NONE;
        }
        List<int[]> fillings = all();
        if (fillings.isEmpty()) {
            return what == 0 ? 0 : NONE;
        }
        int best = 0;
        List<Integer> sorts = new ArrayList<>();
        List<Integer> may = new ArrayList<>();
        for (int i = 0; i < names.size(); i++) {
            if (odds(k, i, fillings) > odds(k, best, fillings)) {
                best = i;
            }
            if (odds(k, i, fillings) > 0) {
                may.add(i);
                if (!sorts.contains(names.get(i).sort)) {
                    sorts.add(names.get(i).sort);
                }
            }
        }
        if (may.size() == 1) {
            return what == 0 ? 1 : may.get(0);
        }
        if (odds(k, best, fillings) * 1000 >= thousandths * odds(k, NONE, fillings)) {
            return what == 0 ? 2 : best;
        }
        if (sorts.size() == 1) {
            return what == 0 ? 3 : sorts.get(0);
        }
        return what == 0 ? 4 : NONE;
    }

    // ---- copies, notes ----

    private boolean hasSheet(int s) {
        return in(s, 0, sheets.size() - 1);
    }

    private int tokens(int s) {
        return sheets.get(s).tokens.size();
    }

    int copy(int s, int day, int h, int covered) {
        if (!hasSheet(s) || !in(day, 0, 9999) || !in(h, 0, 3) || covered < 0 || covered >> tokens(s) != 0) {
            return NONE;
        }
        if (copies.size() == 8) {
            return NONE;
        }
        copies.add(new Copy(s, day, h, covered));
        return copies.size() - 1;
    }

    private boolean openBy(int s, int t, int day) {
        for (Copy copy : copies) {
            if (copy.s == s && copy.day <= day && (copy.covered >> t & 1) == 0) {
                return true;
            }
        }
        return false;
    }

    int open(int s, int day) {
        if (!hasSheet(s) || !in(day, 0, 9999)) {
            return NONE;
        }
        int bits = 0;
        for (int t = 0; t < tokens(s); t++) {
            bits += openBy(s, t, day) ? 1 << t : 0;
        }
        return bits;
    }

    int needless(int c) {
        if (!in(c, 0, copies.size() - 1)) {
            return NONE;
        }
        Copy copy = copies.get(c);
        return copy.day == 0 ? 0 : copy.covered & open(copy.s, copy.day - 1);
    }

    int since(int s, int t) {
        for (int day = 0; day <= 9999 && hasSheet(s) && in(t, 0, tokens(s) - 1); day++) {
            if (openBy(s, t, day)) {
                return day;
            }
        }
        return NONE;
    }

    int twice(int x, int y) {
        if (!in(x, 0, copies.size() - 1) || !in(y, 0, copies.size() - 1) || x == y) {
            return NONE;
        }
        return copies.get(x).s == copies.get(y).s ? copies.get(x).covered & copies.get(y).covered : NONE;
    }

    int stricter(int a, int b) {
        if (!in(a, 0, 3) || !in(b, 0, 3) || a == b) {
            return NONE;
        }
        int both = 0;
        int worse = 0;
        int better = 0;
        for (int s = 0; s < sheets.size(); s++) {
            int first = NONE;
            int second = NONE;
            for (Copy copy : copies) {
                if (copy.s == s && copy.house == a) {
                    first = Math.max(first, 0) | copy.covered;
                }
                if (copy.s == s && copy.house == b) {
                    second = Math.max(second, 0) | copy.covered;
                }
            }
            if (first >= 0 && second >= 0) {
                both++;
                worse += (first | second) != first ? 1 : 0;
                better += (first | second) != second ? 1 : 0;
            }
        }
        return both == 0 ? NONE : worse == 0 && better > 0 ? 1 : 0;
    }

    boolean note(int n, int s) {
        if (!in(n, 1, 40) || !hasSheet(s) || notes[s] != 0) {
            return false;
        }
        notes[s] = n;
        int before = 0;
        for (int told : notes) {
            if (told != 0 && told <= before) {
                notes[s] = 0;
                return false;
            }
            before = Math.max(before, told);
        }
        return true;
    }

    int missing(int n, int what) {
        int lower = 0;
        int higher = NONE;
        for (int s = 5; s >= 0; s--) {
            if (notes[s] == n) {
                return NONE;
            }
            if (notes[s] > n) {
                higher = s;
            }
        }
        for (int s = 0; s < 6; s++) {
            if (notes[s] > 0 && notes[s] < n) {
                lower = s;
            }
        }
        return n < 1 || higher == NONE || !in(what, 0, 1) ? NONE : what == 0 ? lower : higher;
    }

    int check(int k, int n) {
        if (!hasBar(k) || n < 0 || 8L * n > tape.size()) {
            return -2;
        }
        List<Integer> right = new ArrayList<>();
        List<int[]> fillings = all();
        for (int i = 0; i < names.size(); i++) {
            long odds = odds(k, i, fillings);
            if (odds > 0) {
                right.add(i);
                right.add((int) odds);
            }
        }
        int answer = right.size() > 2 * n ? 2 * n : NONE;
        for (int p = 2 * n - 1; p >= 0; p--) {
            int told = tape.get(4 * p) << 24 | tape.get(4 * p + 1) << 16 | tape.get(4 * p + 2) << 8 | tape.get(4 * p + 3);
            if (p >= right.size() || right.get(p) != told) {
                answer = p;
            }
        }
        tape.clear();
        return answer;
    }

    int count(int what) {
        if (hasSheet(what - 20)) {
            return tokens(what - 20);
        }
        if (hasSheet(what - 30)) {
            return begins(sheets.get(what - 30)).size();
        }
        int told = 0;
        for (int note : notes) {
            told += note > 0 ? 1 : 0;
        }
        int[] counts = {names.size(), bars.size(), sheets.size(), clauses(), ties.size(), listed.size(),
            lifted.size(), copies.size(), told, tape.size(), house};
        return in(what, 0, 10) ? counts[what] : NONE;
    }

    // ---- for the maker of runs ----

    /** Sets the words and bars of a text (blanks between) as they break under these names. */
    String broken(int wide, String text, int[] under) {
        Sheet sheet = new Sheet(wide, List.of(text.split(" ")), new ArrayList<>());
        List<Integer> begins = set(sheet, under);
        StringBuilder s = new StringBuilder();
        for (int t = 0; t < sheet.tokens.size(); t++) {
            s.append(t == 0 ? "" : begins.contains(t) ? "/" : " ").append(sheet.tokens.get(t));
        }
        return s.toString();
    }

    String word(int i) {
        return names.get(i).word;
    }

    int from(int i) {
        return names.get(i).from;
    }

    int to(int i) {
        return names.get(i).to;
    }

    int sort(int i) {
        return names.get(i).sort;
    }

    int letter(int letter) {
        return wide[letter];
    }

    String rulesText() {
        return rules;
    }

    void putRules(String text) {
        rules = text;
    }

    void dropTie() {
        ties.remove(ties.size() - 1);
    }

    void dropListed() {
        listed.remove(listed.size() - 1);
    }

    void dropLifted() {
        lifted.remove(lifted.size() - 1);
    }
}
