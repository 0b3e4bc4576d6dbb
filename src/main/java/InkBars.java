/** Bars of ink over names in sheets: what fits under them, how likely it is, and what gives it away. */
public final class InkBars {
    /** There is none. */
    public static final int NONE = -1;

    private static final int NAME_ROOM = 24;
    private static final int BAR_ROOM = 4;
    private static final int SHEET_ROOM = 6;
    private static final int TOKEN_ROOM = 24;
    private static final int WORD_ROOM = 12;
    private static final int TEXT_ROOM = 160;
    private static final int ALPHABET = 26;
    private static final int HOUSES = 4;
    private static final int LAST_YEAR = 199;
    private static final int LAST_DAY = 9999;
    private static final int MOST_INK = 3000;
    private static final int WIDEST_HABIT = 200;

    private static final int INK = 1;
    private static final int LINES = 2;
    private static final int GRAMMAR = 4;
    private static final int RULES = 8;
    private static final int TIES = 16;
    private static final int YEARS = 32;
    private static final int REASONS = 63;

    private static final int SAME = 0;
    private static final int OTHER = 1;

    private final Tape tape;
    private final Letters letters;
    private final Names names;
    private final Bars bars;
    private final Sheets sheets;
    private final Rules rules;
    private final Habits habits;
    private final Copies copies;
    private final Fillings fillings;
    private final int[] alone;
    private final int[] under;
    private final int[] barWides;
    private int theHouse;
    private boolean prepared;
    private boolean weighed;

    public InkBars() {
        tape = new Tape();
        letters = new Letters();
        names = new Names();
        bars = new Bars();
        sheets = new Sheets();
        rules = new Rules();
        habits = new Habits();
        copies = new Copies();
        fillings = new Fillings();
        alone = new int[BAR_ROOM * NAME_ROOM];
        under = new int[BAR_ROOM];
        barWides = new int[BAR_ROOM];
    }

    // ---- what is told ----

    public boolean width(int letter, int n) {
        if (!within(letter, 0, ALPHABET) || !within(n, 1, 60)) {
            return false;
        }
        letters.setWide(letter, n);
        changed();
        return true;
    }

    public boolean joined(int a, int b, int n) {
        if (!within(a, 1, ALPHABET) || !within(b, 1, ALPHABET) || !within(n, -20, 20)) {
            return false;
        }
        letters.setJoined(a, b, n);
        changed();
        return true;
    }

    public int feed(int a, int b, int c, int d, int e) {
        if (!tape.takes(20)) {
            return NONE;
        }
        tape.push(a);
        tape.push(b);
        tape.push(c);
        tape.push(d);
        tape.push(e);
        return tape.length();
    }

    public int name(int n, int sort, int from, int to, int weight) {
        if (!within(n, 1, WORD_ROOM) || !within(sort, 0, 7) || !within(from, 0, LAST_YEAR)) {
            return NONE;
        }
        if (!within(to, from, LAST_YEAR) || !within(weight, 1, 100)) {
            return NONE;
        }
        if (names.full() || tape.length() < n) {
            return NONE;
        }
        boolean good = names.read(tape, n);
        tape.clear();
        if (!good) {
            return -2;
        }
        changed();
        return names.add(sort, from, to, weight);
    }

    public int wide(int i) {
        return names.has(i) ? names.wide(i, letters) : NONE;
    }

    public int bar(int ink, int year, int sorts) {
        if (!within(ink, 1, MOST_INK) || !within(year, NONE, LAST_YEAR) || !within(sorts, 0, 255)) {
            return NONE;
        }
        if (bars.full()) {
            return NONE;
        }
        changed();
        return bars.add(ink, year, sorts);
    }

    public int sheet(int wide, int n) {
        if (!within(wide, 50, 5000) || !within(n, 1, TEXT_ROOM)) {
            return NONE;
        }
        if (sheets.full() || tape.length() < n) {
            return NONE;
        }
        int fault = sheets.read(tape, n, bars.count());
        tape.clear();
        if (fault != 0) {
            return -fault;
        }
        changed();
        return sheets.add(wide);
    }

    public int rules(int n) {
        if (!within(n, 1, TEXT_ROOM) || tape.length() < n) {
            return NONE;
        }
        int fault = rules.take(tape, n);
        tape.clear();
        if (fault != 0) {
            return -fault;
        }
        changed();
        return rules.clauses();
    }

    public boolean tie(int sort, int x, int y) {
        if (!within(sort, 0, 2) || !bars.has(x) || !bars.has(y) || x == y || bars.tiesFull()) {
            return false;
        }
        bars.addTie(sort, x, y);
        changed();
        return true;
    }

    public boolean listed(int k, int a, int b) {
        if (!bars.has(k) || bars.listsFull()) {
            return false;
        }
        if ((a != NONE && !names.has(a)) || (b != NONE && !names.has(b))) {
            return false;
        }
        bars.addListed(k, a, b);
        changed();
        return true;
    }

    public boolean lifted(int house, int name, int ink) {
        if (!isHouse(house) || !names.has(name) || !within(ink, 1, MOST_INK) || habits.full()) {
            return false;
        }
        habits.add(house, name, ink);
        changed();
        return true;
    }

    public int habit(int house, int what) {
        if (!isHouse(house) || !within(what, 0, 1)) {
            return -10000;
        }
        return what == 0 ? habits.least(house, names, letters) : habits.greatest(house, names, letters);
    }

    public boolean house(int k) {
        if (!isHouse(k)) {
            return false;
        }
        theHouse = k;
        changed();
        return true;
    }

    // ---- reasons ----

    public int against(int k, int i) {
        if (!bars.has(k) || !names.has(i)) {
            return NONE;
        }
        return reasonsButInk(k, i) | inkReason(k, i);
    }

    public int judge(int row) {
        if (bars.count() == 0 || !lay(row)) {
            return NONE;
        }
        int reasons = tiesReason() | linesReason();
        for (int k = 0; k < bars.count() && k < BAR_ROOM; k++) {
            reasons |= reasonsButInk(k, under[k]) | inkReason(k, under[k]);
        }
        return reasons;
    }

    public int line(int s, int row, int l) {
        if (!sheets.has(s) || l < 0 || !lay(row)) {
            return NONE;
        }
        sheets.set(s, barWides, letters);
        return sheets.setLine(s, l);
    }

    // ---- fillings ----

    public int fillings(int without) {
        if (bars.count() == 0 || !within(without, 0, REASONS)) {
            return NONE;
        }
        return countWithout(without);
    }

    public int may(int k) {
        if (!bars.has(k)) {
            return NONE;
        }
        weigh();
        return fillings.may(k);
    }

    public long odds(int k, int i) {
        if (!bars.has(k) || (i != NONE && !names.has(i))) {
            return NONE;
        }
        weigh();
        return i == NONE ? fillings.all() : fillings.odds(k, i);
    }

    public int given() {
        if (bars.count() == 0) {
            return NONE;
        }
        int best = INK;
        int most = countWithout(INK);
        for (int reason = LINES; reason <= YEARS; reason *= 2) {
            int many = countWithout(reason);
            if (many > most) {
                most = many;
                best = reason;
            }
        }
        return best;
    }

    public int kept(int m) {
        if (bars.count() == 0 || !within(m, 1, NAME_ROOM)) {
            return NONE;
        }
        prepare();
        if (!keeps(m, WIDEST_HABIT)) {
            return NONE;
        }
        // A wider habit never takes a filling away, so that halving finds the least.
        int low = 0;
        int high = WIDEST_HABIT;
        for (int step = 0; step < 10 && low < high; step++) {
            int middle = (low + high) / 2;
            if (keeps(m, middle)) {
                high = middle;
            } else {
                low = middle + 1;
            }
        }
        return high;
    }

    public int said(int k, int thousandths, int what) {
        if (!bars.has(k) || !within(thousandths, 1, 1000) || !within(what, 0, 1)) {
            return NONE;
        }
        weigh();
        int may = fillings.may(k);
        if (may == 0) {
            return what == 0 ? 0 : NONE;
        }
        int likeliest = fillings.likeliest(k);
        if (Integer.bitCount(may) == 1) {
            return what == 0 ? 1 : likeliest;
        }
        if (fillings.odds(k, likeliest) * 1000 >= fillings.all() * thousandths) {
            return what == 0 ? 2 : likeliest;
        }
        int sort = names.oneSort(may);
        if (sort != NONE) {
            return what == 0 ? 3 : sort;
        }
        return what == 0 ? 4 : NONE;
    }

    // ---- copies, notes ----

    public int copy(int s, int day, int house, int covered) {
        if (!sheets.has(s) || !isDay(day) || !isHouse(house) || copies.full()) {
            return NONE;
        }
        if (!within(covered, 0, sheets.allTokens(s))) {
            return NONE;
        }
        return copies.add(s, day, house, covered);
    }

    public int open(int s, int day) {
        return sheets.has(s) && isDay(day) ? copies.openBy(s, day, sheets.allTokens(s)) : NONE;
    }

    public int needless(int c) {
        if (!copies.has(c)) {
            return NONE;
        }
        int s = copies.sheet(c);
        return copies.covered(c) & copies.openBy(s, copies.day(c) - 1, sheets.allTokens(s));
    }

    public int since(int s, int t) {
        return sheets.has(s) && within(t, 0, sheets.tokens(s) - 1) ? copies.firstOpen(s, t) : NONE;
    }

    public int twice(int x, int y) {
        if (!copies.has(x) || !copies.has(y) || x == y || copies.sheet(x) != copies.sheet(y)) {
            return NONE;
        }
        return copies.covered(x) & copies.covered(y);
    }

    public int stricter(int a, int b) {
        return isHouse(a) && isHouse(b) && a != b ? copies.compare(a, b) : NONE;
    }

    public boolean note(int n, int s) {
        if (!within(n, 1, 40) || !sheets.has(s) || !sheets.takesNote(n, s)) {
            return false;
        }
        sheets.addNote(n, s);
        return true;
    }

    public int missing(int n, int what) {
        if (n < 1 || !within(what, 0, 1) || !sheets.misses(n)) {
            return NONE;
        }
        return what == 0 ? sheets.noteBelow(n) : sheets.noteAbove(n);
    }

    public int check(int k, int n) {
        if (!bars.has(k) || n < 0 || n > tape.length() / 8) {
            return -2;
        }
        weigh();
        int wrong = firstWrong(k, n);
        tape.clear();
        return wrong;
    }

    public int count(int what) {
        switch (what) {
            case 0: return names.count();
            case 1: return bars.count();
            case 2: return sheets.count();
            case 3: return rules.clauses();
            case 4: return bars.ties();
            case 5: return bars.lists();
            case 6: return habits.count();
            case 7: return copies.count();
            case 8: return sheets.notes();
            case 9: return tape.length();
            case 10: return theHouse;
            default: break;
        }
        if (what >= 20 && sheets.has(what - 20)) {
            return sheets.tokens(what - 20);
        }
        return what >= 30 && sheets.has(what - 30) ? sheets.lines(what - 30) : NONE;
    }

    // ---- behind the face ----

    private static boolean within(int x, int least, int greatest) {
        return x >= least && x <= greatest;
    }

    private static boolean isHouse(int k) {
        return within(k, 0, HOUSES - 1);
    }

    private static boolean isDay(int day) {
        return within(day, 0, LAST_DAY);
    }

    private static boolean isLetter(int sign) {
        return sign >= 'a' && sign <= 'z';
    }

    private static boolean isDigit(int sign) {
        return sign >= '0' && sign <= '9';
    }

    private static boolean bit(int bits, int place) {
        return (bits >> place & 1) != 0;
    }

    private void changed() {
        prepared = false;
    }

    private int inkReason(int k, int i) {
        int more = bars.ink(k) - names.wide(i, letters);
        boolean usual = within(more, habits.least(theHouse, names, letters), habits.greatest(theHouse, names, letters));
        return usual ? 0 : INK;
    }

    /** The reasons against a name under a bar that no habit, line or other bar changes. */
    private int reasonsButInk(int k, int i) {
        int reasons = 0;
        boolean vowel = names.vowel(i);
        if (vowel ? sheets.isBehindA(k) : sheets.isBehindAn(k)) {
            reasons |= GRAMMAR;
        }
        tellFacts(k, i, vowel);
        if (!rules.hold(k)) {
            reasons |= RULES;
        }
        if (!bars.inLists(k, i, names)) {
            reasons |= TIES;
        }
        int year = bars.year(k);
        if ((year != NONE && !names.lives(i, year)) || !bit(bars.sorts(k), names.sort(i))) {
            reasons |= YEARS;
        }
        return reasons;
    }

    private void tellFacts(int k, int i, boolean vowel) {
        rules.tell('i', i);
        rules.tell('w', names.wide(i, letters));
        rules.tell('n', names.length(i));
        rules.tell('s', names.sort(i));
        rules.tell('y', names.from(i));
        rules.tell('z', names.to(i));
        rules.tell('v', vowel ? 1 : 0);
        rules.tell('a', names.first(i));
        rules.tell('b', bars.ink(k));
    }

    /** Puts a row of names under the bars; false if there is no such row. */
    private boolean lay(int row) {
        int rest = row;
        for (int k = 0; k < bars.count() && k < BAR_ROOM; k++) {
            int i = rest % NAME_ROOM;
            if (!names.has(i)) {
                return false;
            }
            under[k] = i;
            barWides[k] = names.wide(i, letters);
            rest /= NAME_ROOM;
        }
        return rest == 0;
    }

    private int tiesReason() {
        for (int t = 0; t < bars.ties(); t++) {
            int x = bars.tieFirst(t);
            int y = bars.tieSecond(t);
            if (!bars.has(x) || !bars.has(y) || !bit(names.mates(bars.tieSort(t), under[x], true), under[y])) {
                return TIES;
            }
        }
        return 0;
    }

    private int linesReason() {
        for (int s = 0; s < sheets.count(); s++) {
            sheets.set(s, barWides, letters);
            if (sheets.breaksOtherwise(s)) {
                return LINES;
            }
        }
        return 0;
    }

    /** Gathers once for many questions what the search needs, till something is told that changes it. */
    private void prepare() {
        if (prepared) {
            return;
        }
        fillings.begin(bars.count(), names.count());
        for (int i = 0; i < names.count(); i++) {
            fillings.setName(i, names.wide(i, letters), names.weight(i));
        }
        for (int t = 0; t < bars.ties(); t++) {
            int x = bars.tieFirst(t);
            int y = bars.tieSecond(t);
            for (int i = 0; i < names.count(); i++) {
                fillings.pair(x, i, y, names.mates(bars.tieSort(t), i, true));
                fillings.pair(y, i, x, names.mates(bars.tieSort(t), i, false));
            }
        }
        fillings.lines.read(sheets, letters);
        for (int k = 0; k < bars.count() && k < BAR_ROOM; k++) {
            for (int i = 0; i < names.count() && i < NAME_ROOM; i++) {
                alone[k * NAME_ROOM + i] = reasonsButInk(k, i);
            }
        }
        prepared = true;
        weighed = false;
    }

    /** Tells the search which names fit under each bar by themselves, if the habit is from least to greatest. */
    private void fit(int without, int least, int greatest) {
        for (int k = 0; k < bars.count() && k < BAR_ROOM; k++) {
            int fits = 0;
            for (int i = 0; i < names.count() && i < NAME_ROOM; i++) {
                int more = bars.ink(k) - fillings.wide(i);
                int reasons = alone[k * NAME_ROOM + i] | (within(more, least, greatest) ? 0 : INK);
                if ((reasons & ~without) == 0) {
                    fits |= 1 << i;
                }
            }
            fillings.setFits(k, fits);
        }
        fillings.heed((without & TIES) == 0, (without & LINES) == 0);
    }

    private int countWithout(int without) {
        prepare();
        fit(without, habits.least(theHouse, names, letters), habits.greatest(theHouse, names, letters));
        return fillings.number();
    }

    private void weigh() {
        prepare();
        if (!weighed) {
            fit(0, habits.least(theHouse, names, letters), habits.greatest(theHouse, names, letters));
            fillings.weighAll();
            weighed = true;
        }
    }

    private boolean keeps(int m, int greatest) {
        fit(0, 0, greatest);
        return fillings.fewest() >= m;
    }

    private int firstWrong(int k, int n) {
        int place = 0;
        for (int i = 0; i < names.count(); i++) {
            if (fillings.odds(k, i) != 0) {
                if (place >= 2 * n) {
                    return 2 * n;
                }
                if (tape.number(place) != i) {
                    return place;
                }
                if (tape.number(place + 1) != (int) fillings.odds(k, i)) {
                    return place + 1;
                }
                place += 2;
            }
        }
        return place < 2 * n ? place : NONE;
    }

    // ---- the parts ----

    /** Bytes that wait to be read. */
    private static final class Tape {
        private static final int ROOM = 400;
        private final int[] bytes = new int[ROOM];
        private int length;

        int length() {
            return length;
        }

        boolean takes(int more) {
            return length + more <= ROOM;
        }

        void push(int number) {
            for (int shift = 24; shift >= 0 && length < ROOM; shift -= 8) {
                bytes[length] = number >> shift & 255;
                length++;
            }
        }

        int at(int place) {
            return place >= 0 && place < length && place < ROOM ? bytes[place] : 0;
        }

        int number(int place) {
            int first = 4 * place;
            return at(first) << 24 | at(first + 1) << 16 | at(first + 2) << 8 | at(first + 3);
        }

        void clear() {
            length = 0;
        }
    }

    /** How wide each letter is, and the blank (0), and what two joined ones add. */
    private static final class Letters {
        private static final int SIDE = ALPHABET + 1;
        private final int[] wides = new int[SIDE];
        private final int[] joins = new int[SIDE * SIDE];

        Letters() {
            for (int letter = 0; letter < SIDE; letter++) {
                wides[letter] = 10;
            }
        }

        void setWide(int letter, int n) {
            if (letter >= 0 && letter < SIDE) {
                wides[letter] = n;
            }
        }

        void setJoined(int a, int b, int n) {
            if (a >= 0 && a < SIDE && b >= 0 && b < SIDE) {
                joins[a * SIDE + b] = n;
            }
        }

        int wideOf(int letter) {
            return letter >= 0 && letter < SIDE ? wides[letter] : 0;
        }

        int joinOf(int a, int b) {
            return a >= 0 && a < SIDE && b >= 0 && b < SIDE ? joins[a * SIDE + b] : 0;
        }
    }

    /** Words of one to twelve letters (1 to 26). */
    private static final class Words {
        private final int room;
        private final int[] signs;
        private final int[] lengths;

        Words(int asked) {
            room = Math.max(asked, 0);
            signs = new int[room * WORD_ROOM];
            lengths = new int[room];
        }

        private boolean stands(int w) {
            return w >= 0 && w < room;
        }

        void wipe(int w) {
            if (stands(w)) {
                lengths[w] = 0;
            }
        }

        /** Adds a letter; false if the word has twelve. */
        boolean grow(int w, int letter) {
            if (!stands(w) || lengths[w] < 0 || lengths[w] >= WORD_ROOM) {
                return false;
            }
            signs[w * WORD_ROOM + lengths[w]] = letter;
            lengths[w]++;
            return true;
        }

        int length(int w) {
            return w >= 0 && w < room ? lengths[w] : 0;
        }

        /** The letter at a place; 0 behind the end, so that what ends first is ahead. */
        int letter(int w, int place) {
            boolean there = w >= 0 && w < room && place >= 0 && place < WORD_ROOM;
            return there && place < lengths[w] ? signs[w * WORD_ROOM + place] : 0;
        }

        int wide(int w, Letters by) {
            int wide = 0;
            int before = 0;
            int many = length(w);
            for (int place = 0; place < many; place++) {
                int letter = letter(w, place);
                wide += by.wideOf(letter) + by.joinOf(before, letter);
                before = letter;
            }
            return wide;
        }

        /** Below 0 if word v is ahead of word w by the alphabet, 0 if they are alike. */
        int compare(int v, int w) {
            for (int place = 0; place < WORD_ROOM; place++) {
                int more = letter(v, place) - letter(w, place);
                if (more != 0) {
                    return more;
                }
            }
            return 0;
        }
    }

    /** The names, each with its sort, years and weight. */
    private static final class Names {
        private final Words words = new Words(NAME_ROOM);
        private final int[] sorts = new int[NAME_ROOM];
        private final int[] froms = new int[NAME_ROOM];
        private final int[] tos = new int[NAME_ROOM];
        private final int[] weights = new int[NAME_ROOM];
        private final int[] aheads = new int[NAME_ROOM];
        private int count;

        int count() {
            return count;
        }

        boolean full() {
            return count >= NAME_ROOM;
        }

        boolean has(int i) {
            return i >= 0 && i < count && i < NAME_ROOM;
        }

        /** Reads the word of the next name; false if it is none, or another name's. */
        boolean read(Tape tape, int n) {
            words.wipe(count);
            for (int place = 0; place < n; place++) {
                int sign = tape.at(place);
                if (!isLetter(sign) || !words.grow(count, sign - 'a' + 1)) {
                    return false;
                }
            }
            for (int i = 0; i < count; i++) {
                if (words.compare(i, count) == 0) {
                    return false;
                }
            }
            return true;
        }

        /** Keeps the name whose word was just read. */
        int add(int sort, int from, int to, int weight) {
            if (full() || count < 0) {
                return NONE;
            }
            sorts[count] = sort;
            froms[count] = from;
            tos[count] = to;
            weights[count] = weight;
            aheads[count] = 0;
            for (int i = 0; i < count; i++) {
                if (words.compare(i, count) < 0) {
                    aheads[count] |= 1 << i;
                } else {
                    aheads[i] |= 1 << count;
                }
            }
            count++;
            return count - 1;
        }

        int wide(int i, Letters by) {
            return words.wide(i, by);
        }

        int length(int i) {
            return words.length(i);
        }

        int first(int i) {
            return words.letter(i, 0);
        }

        boolean vowel(int i) {
            int letter = first(i) + 'a' - 1;
            return letter == 'a' || letter == 'e' || letter == 'i' || letter == 'o' || letter == 'u';
        }

        int sort(int i) {
            return has(i) ? sorts[i] : 0;
        }

        int from(int i) {
            return has(i) ? froms[i] : 0;
        }

        int to(int i) {
            return has(i) ? tos[i] : 0;
        }

        int weight(int i) {
            return has(i) ? weights[i] : 0;
        }

        boolean lives(int i, int year) {
            return from(i) <= year && year <= to(i);
        }

        /** The names that are ahead of name i by the alphabet (bits). */
        int ahead(int i) {
            return has(i) ? aheads[i] : 0;
        }

        /** The names that a tie lets stand under its other bar, if i stands under its first one or its second. */
        int mates(int sort, int i, boolean first) {
            int self = has(i) ? 1 << i : 0;
            if (sort == SAME) {
                return self;
            }
            if (sort == OTHER) {
                return ~self;
            }
            return first ? ~(ahead(i) | self) : ahead(i);
        }

        /** The sort that all of these names (bits) are of; NONE if there is none. */
        int oneSort(int bits) {
            int one = NONE;
            for (int i = 0; i < count && i < NAME_ROOM; i++) {
                if (bit(bits, i)) {
                    if (one != NONE && one != sorts[i]) {
                        return NONE;
                    }
                    one = sorts[i];
                }
            }
            return one;
        }
    }

    /** The bars, the ties between them, and the lists in which they stand. */
    private static final class Bars {
        private static final int MANY = 20;
        private final int[] inks = new int[BAR_ROOM];
        private final int[] years = new int[BAR_ROOM];
        private final int[] sorts = new int[BAR_ROOM];
        private final int[] tieSorts = new int[MANY];
        private final int[] tieFirsts = new int[MANY];
        private final int[] tieSeconds = new int[MANY];
        private final int[] listBars = new int[MANY];
        private final int[] listBehinds = new int[MANY];
        private final int[] listAheads = new int[MANY];
        private int count;
        private int ties;
        private int lists;

        int count() {
            return count;
        }

        int ties() {
            return ties;
        }

        int lists() {
            return lists;
        }

        boolean full() {
            return count >= BAR_ROOM;
        }

        boolean tiesFull() {
            return ties >= MANY;
        }

        boolean listsFull() {
            return lists >= MANY;
        }

        boolean has(int k) {
            return k >= 0 && k < count && k < BAR_ROOM;
        }

        int add(int ink, int year, int kinds) {
            if (full() || count < 0) {
                return NONE;
            }
            inks[count] = ink;
            years[count] = year;
            sorts[count] = kinds;
            count++;
            return count - 1;
        }

        void addTie(int sort, int x, int y) {
            if (!tiesFull() && ties >= 0) {
                tieSorts[ties] = sort;
                tieFirsts[ties] = x;
                tieSeconds[ties] = y;
                ties++;
            }
        }

        void addListed(int k, int a, int b) {
            if (!listsFull() && lists >= 0) {
                listBars[lists] = k;
                listBehinds[lists] = a;
                listAheads[lists] = b;
                lists++;
            }
        }

        int ink(int k) {
            return has(k) ? inks[k] : 0;
        }

        int year(int k) {
            return has(k) ? years[k] : NONE;
        }

        int sorts(int k) {
            return has(k) ? sorts[k] : 0;
        }

        private boolean tied(int t) {
            return t >= 0 && t < ties && t < MANY;
        }

        int tieSort(int t) {
            return tied(t) ? tieSorts[t] : SAME;
        }

        int tieFirst(int t) {
            return tied(t) ? tieFirsts[t] : NONE;
        }

        int tieSecond(int t) {
            return tied(t) ? tieSeconds[t] : NONE;
        }

        /** Whether name i stands where each list has bar k. */
        boolean inLists(int k, int i, Names names) {
            for (int l = 0; l < lists && l < MANY; l++) {
                if (listBars[l] == k) {
                    int a = listBehinds[l];
                    int b = listAheads[l];
                    if ((a != NONE && !bit(names.ahead(i), a)) || (b != NONE && !bit(names.ahead(b), i))) {
                        return false;
                    }
                }
            }
            return true;
        }
    }

    /** The sheets: their tokens, where their lines begin, and the notes that stand in them. */
    private static final class Sheets {
        private static final int ROOM = SHEET_ROOM * TOKEN_ROOM;
        private static final int AHEAD = 0;
        private static final int IN_WORD = 1;
        private static final int ON_BAR = 2;
        private final Words words = new Words(ROOM);
        private final int[] bars = new int[ROOM];
        private final boolean[] begins = new boolean[ROOM];
        private final boolean[] setBegins = new boolean[TOKEN_ROOM];
        private final int[] wides = new int[SHEET_ROOM];
        private final int[] tokens = new int[SHEET_ROOM];
        private final int[] notes = new int[SHEET_ROOM];
        private int count;
        private int read;
        private int behindA;
        private int behindAn;

        int count() {
            return count;
        }

        boolean full() {
            return count >= SHEET_ROOM;
        }

        boolean has(int s) {
            return s >= 0 && s < count && s < SHEET_ROOM;
        }

        /** Reads the tokens of the next sheet; a fault as 1000 times its number and its place, 0 if there is none. */
        int read(Tape tape, int n, int told) {
            int state = AHEAD;
            boolean breaks = true;
            read = 0;
            for (int place = 0; place < n; place++) {
                int sign = tape.at(place);
                int fault = 0;
                if (state == AHEAD) {
                    fault = beginToken(sign, breaks, told);
                    state = isLetter(sign) ? IN_WORD : ON_BAR;
                } else if (sign == ' ' || sign == '/') {
                    state = AHEAD;
                    breaks = sign == '/';
                } else if (state == IN_WORD && isLetter(sign)) {
                    fault = words.grow(slot(count, read - 1), sign - 'a' + 1) ? 0 : 2;
                } else {
                    fault = 1;
                }
                if (fault != 0) {
                    return 1000 * fault + place;
                }
            }
            return state == AHEAD ? 1000 + n : 0;
        }

        private int beginToken(int sign, boolean breaks, int told) {
            if (!isLetter(sign) && !isDigit(sign)) {
                return 1;
            }
            if (read >= TOKEN_ROOM) {
                return 4;
            }
            if (isDigit(sign) && sign - '0' >= told) {
                return 3;
            }
            int slot = slot(count, read);
            if (slot >= 0 && slot < ROOM) {
                words.wipe(slot);
                bars[slot] = isDigit(sign) ? sign - '0' : NONE;
                begins[slot] = breaks;
                if (isLetter(sign)) {
                    words.grow(slot, sign - 'a' + 1);
                }
            }
            read++;
            return 0;
        }

        /** Keeps the sheet whose tokens were just read. */
        int add(int wide) {
            if (full() || count < 0) {
                return NONE;
            }
            wides[count] = wide;
            tokens[count] = read;
            notes[count] = 0;
            count++;
            for (int t = 1; t < read; t++) {
                heedArticle(slot(count - 1, t - 1), barAt(count - 1, t));
            }
            return count - 1;
        }

        private void heedArticle(int ahead, int k) {
            if (k == NONE || words.letter(ahead, 0) != 1) {
                return;
            }
            if (words.length(ahead) == 1) {
                behindA |= 1 << k;
            }
            if (words.length(ahead) == 2 && words.letter(ahead, 1) == 'n' - 'a' + 1) {
                behindAn |= 1 << k;
            }
        }

        boolean isBehindA(int k) {
            return bit(behindA, k);
        }

        boolean isBehindAn(int k) {
            return bit(behindAn, k);
        }

        private static int slot(int s, int t) {
            return s * TOKEN_ROOM + t;
        }

        private boolean stands(int s, int t) {
            return has(s) && t >= 0 && t < tokens[s] && t < TOKEN_ROOM;
        }

        int tokens(int s) {
            return has(s) ? tokens[s] : 0;
        }

        int allTokens(int s) {
            return (1 << tokens(s)) - 1;
        }

        int wide(int s) {
            return has(s) ? wides[s] : 0;
        }

        /** The bar that token t is; NONE if it is a word. */
        int barAt(int s, int t) {
            return stands(s, t) ? bars[slot(s, t)] : NONE;
        }

        boolean begins(int s, int t) {
            return stands(s, t) && begins[slot(s, t)];
        }

        int wordWide(int s, int t, Letters by) {
            return stands(s, t) ? words.wide(slot(s, t), by) : 0;
        }

        int lines(int s) {
            int lines = 0;
            for (int t = 0; t < tokens(s); t++) {
                if (begins(s, t)) {
                    lines++;
                }
            }
            return lines;
        }

        /** Sets a sheet, with bars as wide as told. */
        void set(int s, int[] barWides, Letters by) {
            int across = 0;
            for (int t = 0; t < tokens(s) && t < TOKEN_ROOM; t++) {
                int k = barAt(s, t);
                int own = k >= 0 && k < barWides.length ? barWides[k] : wordWide(s, t, by);
                int further = across + by.wideOf(0) + own;
                setBegins[t] = t == 0 || further > wide(s);
                across = setBegins[t] ? own : further;
            }
        }

        /** The token at which line l of the sheet that was just set begins. */
        int setLine(int s, int l) {
            int line = NONE;
            for (int t = 0; t < tokens(s) && t < TOKEN_ROOM; t++) {
                if (setBegins[t]) {
                    line++;
                    if (line == l) {
                        return t;
                    }
                }
            }
            return NONE;
        }

        /** Whether the sheet that was just set breaks otherwise than it does. */
        boolean breaksOtherwise(int s) {
            for (int t = 0; t < tokens(s) && t < TOKEN_ROOM; t++) {
                if (setBegins[t] != begins(s, t)) {
                    return true;
                }
            }
            return false;
        }

        boolean takesNote(int n, int s) {
            for (int other = 0; other < count && other < SHEET_ROOM; other++) {
                int told = notes[other];
                if (told != 0 && (other == s || (other < s ? told >= n : told <= n))) {
                    return false;
                }
            }
            return true;
        }

        void addNote(int n, int s) {
            if (has(s)) {
                notes[s] = n;
            }
        }

        int notes() {
            int many = 0;
            for (int s = 0; s < count && s < SHEET_ROOM; s++) {
                if (notes[s] != 0) {
                    many++;
                }
            }
            return many;
        }

        boolean misses(int n) {
            boolean greater = false;
            for (int s = 0; s < count && s < SHEET_ROOM; s++) {
                if (notes[s] == n) {
                    return false;
                }
                greater = greater || notes[s] > n;
            }
            return greater;
        }

        /** The sheet of the next lower note than n; 0 if there is none. */
        int noteBelow(int n) {
            int below = 0;
            for (int s = 0; s < count && s < SHEET_ROOM; s++) {
                if (notes[s] != 0 && notes[s] < n) {
                    below = s;
                }
            }
            return below;
        }

        /** The sheet of the next higher note than n. */
        int noteAbove(int n) {
            for (int s = 0; s < count && s < SHEET_ROOM; s++) {
                if (notes[s] > n) {
                    return s;
                }
            }
            return NONE;
        }
    }

    /** What the reader knows: a text of clauses, read for its faults when it is told and again when it is asked. */
    private static final class Rules {
        private static final int END = -1;
        private static final int CLAUSES = 12;
        private static final int DEEPEST = 6;
        private static final int DIGITS = 5;
        private final int[] text = new int[TEXT_ROOM];
        private final int[] draft = new int[TEXT_ROOM];
        private final int[] facts = new int[ALPHABET];
        private int length;
        private int clauses;
        private boolean asking;
        private int end;
        private int at;
        private int next;
        private int fault;
        private boolean refused;

        int clauses() {
            return clauses;
        }

        /** Tells what a letter stands for in the clauses. */
        void tell(char letter, int fact) {
            int place = letter - 'a';
            if (place >= 0 && place < ALPHABET) {
                facts[place] = fact;
            }
        }

        /** Takes a text in place of the one before; a fault as 1000 times its number and its place, 0 if there is none. */
        int take(Tape tape, int n) {
            for (int place = 0; place < n && place < TEXT_ROOM; place++) {
                draft[place] = tape.at(place);
            }
            begin(false, 0, n);
            int found = 0;
            for (int c = 0; c <= CLAUSES; c++) {
                clause(c);
                found = c + 1;
                if (next == END) {
                    break;
                }
                go(next == ';' ? 0 : 1);
            }
            if (fault != 0) {
                return fault;
            }
            System.arraycopy(draft, 0, text, 0, TEXT_ROOM);
            length = n;
            clauses = found;
            return 0;
        }

        /** Whether all clauses of bar k hold, by the facts that were told. */
        boolean hold(int k) {
            for (int place = 0; place < length && place < TEXT_ROOM; place++) {
                boolean first = place == 0 || text[place - 1] == ';';
                if (first && text[place] - '0' == k) {
                    begin(true, place + 2, length);
                    if (!condition(1, true) || refused) {
                        return false;
                    }
                }
            }
            return true;
        }

        private void begin(boolean ask, int from, int to) {
            asking = ask;
            end = to;
            at = from - 1;
            fault = 0;
            refused = false;
            go(0);
        }

        /** Goes on to the next sign; at a fault it tells the first and lets nothing more be read. */
        private void go(int wrong) {
            if (fault != 0) {
                return;
            }
            if (wrong != 0) {
                fault = 1000 * wrong + at;
                next = END;
                return;
            }
            at++;
            boolean more = at >= 0 && at < end && at < TEXT_ROOM;
            next = !more ? END : asking ? text[at] : draft[at];
        }

        private void clause(int nth) {
            int wrong = nth >= CLAUSES ? 4 : next > '3' ? 3 : 0;
            go(isDigit(next) ? wrong : 1);
            go(next == '(' ? 0 : 1);
            condition(1, false);
            go(next == ')' ? 0 : 1);
        }

        // Each of these answers for what stands at the next sign and goes behind it; what is not asked is only
        // read over, and its answer is free. Depth is how many ( [ ! are open.

        private boolean condition(int depth, boolean asked) {
            boolean holds = part(depth, asked);
            for (int more = 0; more < TEXT_ROOM && next == '|'; more++) {
                go(0);
                boolean other = part(depth, asked && !holds);
                holds = holds || other;
            }
            return holds;
        }

        private boolean part(int depth, boolean asked) {
            boolean holds = piece(depth, asked);
            for (int more = 0; more < TEXT_ROOM && next == '&'; more++) {
                go(0);
                boolean other = piece(depth, asked && holds);
                holds = holds && other;
            }
            return holds;
        }

        private boolean piece(int depth, boolean asked) {
            if (next == '!' || next == '(') {
                return nested(depth, asked);
            }
            int left = sum(depth, asked);
            int sign = next;
            go(sign == '<' || sign == '>' || sign == '=' ? 0 : 1);
            int right = sum(depth, asked);
            return sign == '<' ? left < right : sign == '>' ? left > right : left == right;
        }

        private boolean nested(int depth, boolean asked) {
            int sign = next;
            go(depth < DEEPEST ? 0 : 5);
            if (depth >= DEEPEST) {
                return false;
            }
            if (sign == '!') {
                return !piece(depth + 1, asked);
            }
            boolean holds = condition(depth + 1, asked);
            go(next == ')' ? 0 : 1);
            return holds;
        }

        private int sum(int depth, boolean asked) {
            int value = product(depth, asked);
            for (int more = 0; more < TEXT_ROOM && (next == '+' || next == '-'); more++) {
                boolean plus = next == '+';
                go(0);
                int other = product(depth, asked);
                value = plus ? value + other : value - other;
            }
            return value;
        }

        private int product(int depth, boolean asked) {
            int value = factor(depth, asked);
            for (int more = 0; more < TEXT_ROOM && (next == '*' || next == '/' || next == '%'); more++) {
                int sign = next;
                go(0);
                int other = factor(depth, asked);
                if (sign == '*') {
                    value *= other;
                } else if (other == 0) {
                    refused = refused || asked;
                } else {
                    value = sign == '/' ? value / other : value % other;
                }
            }
            return value;
        }

        private int factor(int depth, boolean asked) {
            if (next == '[') {
                go(depth < DEEPEST ? 0 : 5);
                int inner = depth < DEEPEST ? sum(depth + 1, asked) : 0;
                go(next == ']' ? 0 : 1);
                return inner;
            }
            int value = 0;
            int digits = 0;
            for (; digits <= DIGITS && isDigit(next); digits++) {
                value = 10 * value + next - '0';
                go(digits < DIGITS ? 0 : 2);
            }
            if (digits > 0) {
                return value;
            }
            int place = next - 'a';
            go(isFact(next) ? 0 : 1);
            return place >= 0 && place < ALPHABET ? facts[place] : 0;
        }

        private static boolean isFact(int sign) {
            switch (sign) {
                case 'a': case 'b': case 'i': case 'n': case 's': case 'v': case 'w': case 'y': case 'z':
                    return true;
                default:
                    return false;
            }
        }
    }

    /** The houses' habits, by the names that were seen since. */
    private static final class Habits {
        private static final int ROOM = 60;
        private static final int USUAL_LEAST = 0;
        private static final int USUAL_GREATEST = 20;
        private final int[] houses = new int[ROOM];
        private final int[] lifted = new int[ROOM];
        private final int[] inks = new int[ROOM];
        private int count;

        int count() {
            return count;
        }

        boolean full() {
            return count >= ROOM;
        }

        void add(int house, int name, int ink) {
            if (!full() && count >= 0) {
                houses[count] = house;
                lifted[count] = name;
                inks[count] = ink;
                count++;
            }
        }

        int least(int house, Names names, Letters by) {
            return bound(house, false, names, by);
        }

        int greatest(int house, Names names, Letters by) {
            return bound(house, true, names, by);
        }

        private int bound(int house, boolean upper, Names names, Letters by) {
            int bound = upper ? USUAL_GREATEST : USUAL_LEAST;
            boolean any = false;
            for (int l = 0; l < count && l < ROOM; l++) {
                if (houses[l] == house) {
                    int more = inks[l] - names.wide(lifted[l], by);
                    boolean further = upper ? more > bound : more < bound;
                    bound = !any || further ? more : bound;
                    any = true;
                }
            }
            return bound;
        }
    }

    /** The copies of the sheets, and what each has covered. */
    private static final class Copies {
        private static final int ROOM = 8;
        private final int[] sheets = new int[ROOM];
        private final int[] days = new int[ROOM];
        private final int[] houses = new int[ROOM];
        private final int[] covers = new int[ROOM];
        private int count;

        int count() {
            return count;
        }

        boolean full() {
            return count >= ROOM;
        }

        boolean has(int c) {
            return c >= 0 && c < count && c < ROOM;
        }

        int add(int s, int day, int house, int covered) {
            if (full() || count < 0) {
                return NONE;
            }
            sheets[count] = s;
            days[count] = day;
            houses[count] = house;
            covers[count] = covered;
            count++;
            return count - 1;
        }

        int sheet(int c) {
            return has(c) ? sheets[c] : NONE;
        }

        int day(int c) {
            return has(c) ? days[c] : NONE;
        }

        int covered(int c) {
            return has(c) ? covers[c] : 0;
        }

        int openBy(int s, int day, int tokens) {
            int open = 0;
            for (int c = 0; c < count && c < ROOM; c++) {
                if (sheets[c] == s && days[c] <= day) {
                    open |= tokens & ~covers[c];
                }
            }
            return open;
        }

        int firstOpen(int s, int t) {
            int first = NONE;
            for (int c = 0; c < count && c < ROOM; c++) {
                if (sheets[c] == s && !bit(covers[c], t) && (first == NONE || days[c] < first)) {
                    first = days[c];
                }
            }
            return first;
        }

        private boolean copied(int house, int s) {
            for (int c = 0; c < count && c < ROOM; c++) {
                if (sheets[c] == s && houses[c] == house) {
                    return true;
                }
            }
            return false;
        }

        private int coveredBy(int house, int s) {
            int covered = 0;
            for (int c = 0; c < count && c < ROOM; c++) {
                if (sheets[c] == s && houses[c] == house) {
                    covered |= covers[c];
                }
            }
            return covered;
        }

        /** 1 if house a is stricter than house b, 0 if not; NONE if no sheet has copies of both. */
        int compare(int a, int b) {
            boolean both = false;
            boolean less = false;
            boolean more = false;
            for (int s = 0; s < SHEET_ROOM; s++) {
                if (copied(a, s) && copied(b, s)) {
                    both = true;
                    less = less || (coveredBy(b, s) & ~coveredBy(a, s)) != 0;
                    more = more || (coveredBy(a, s) & ~coveredBy(b, s)) != 0;
                }
            }
            if (!both) {
                return NONE;
            }
            return more && !less ? 1 : 0;
        }
    }

    /**
     * What the sheets' breaks ask of the widths under the bars: of some tokens that stand behind one another, the
     * bars among them may take no more than is left of the line, or must take more. Each stands with the last bar
     * in it, so that it can be asked as soon as that bar has a name.
     */
    private static final class Lines {
        private static final int ROOM = SHEET_ROOM * TOKEN_ROOM;
        // Beyond every width that a name can have.
        private static final int FAR = 1000000;
        private final int[] many = new int[BAR_ROOM];
        private final int[] left = new int[BAR_ROOM * ROOM];
        private final boolean[] wider = new boolean[BAR_ROOM * ROOM];
        private final int[] times = new int[BAR_ROOM * ROOM * BAR_ROOM];
        private final int[] now = new int[BAR_ROOM];
        private boolean broken;
        private int least;
        private int greatest;

        /** Whether some sheet breaks otherwise whatever the names. */
        boolean broken() {
            return broken;
        }

        int least() {
            return least;
        }

        int greatest() {
            return greatest;
        }

        void read(Sheets sheets, Letters by) {
            broken = false;
            for (int k = 0; k < BAR_ROOM; k++) {
                many[k] = 0;
            }
            for (int s = 0; s < sheets.count(); s++) {
                readSheet(s, sheets, by);
            }
        }

        private void readSheet(int s, Sheets sheets, Letters by) {
            int across = 0;
            for (int t = 0; t < sheets.tokens(s); t++) {
                int k = sheets.barAt(s, t);
                int own = k == NONE ? sheets.wordWide(s, t, by) : 0;
                across += by.wideOf(0) + own;
                stand(k, t == 0);
                if (t > 0) {
                    add(sheets.wide(s) - across, sheets.begins(s, t));
                }
                if (sheets.begins(s, t)) {
                    across = own;
                    stand(k, true);
                }
            }
        }

        /** Counts bar k (or none) as a part of the line, which may begin with it. */
        private void stand(int k, boolean begins) {
            for (int q = 0; q < BAR_ROOM; q++) {
                now[q] = (begins ? 0 : now[q]) + (q == k ? 1 : 0);
            }
        }

        private void add(int rest, boolean must) {
            int last = BAR_ROOM - 1;
            for (int step = 0; step < BAR_ROOM && last >= 0 && now[last] == 0; step++) {
                last--;
            }
            if (last < 0) {
                broken = broken || must == (rest >= 0);
                return;
            }
            for (int n = 0; n < many[last] && n < ROOM; n++) {
                int c = last * ROOM + n;
                if (wider[c] == must && asksOfTheSame(c)) {
                    left[c] = must ? Math.max(left[c], rest) : Math.min(left[c], rest);
                    return;
                }
            }
            if (many[last] >= 0 && many[last] < ROOM) {
                put(last * ROOM + many[last], rest, must);
                many[last]++;
            }
        }

        /** Whether what c asks, it asks of the same bars as stand in the line now, so that the harder will do. */
        private boolean asksOfTheSame(int c) {
            for (int q = 0; q < BAR_ROOM; q++) {
                if (times[c * BAR_ROOM + q] != now[q]) {
                    return false;
                }
            }
            return true;
        }

        private void put(int c, int rest, boolean must) {
            left[c] = rest;
            wider[c] = must;
            for (int q = 0; q < BAR_ROOM; q++) {
                times[c * BAR_ROOM + q] = now[q];
            }
        }

        boolean heeds(int k) {
            return k >= 0 && k < BAR_ROOM && many[k] > 0;
        }

        /** Finds how narrow and how wide a name under bar k may be behind those under the bars before. */
        void narrow(int k, int[] wides) {
            least = -FAR;
            greatest = FAR;
            for (int n = 0; heeds(k) && n < many[k] && n < ROOM; n++) {
                int c = k * ROOM + n;
                int rest = left[c];
                for (int q = 0; q < k && q < wides.length; q++) {
                    rest -= times[c * BAR_ROOM + q] * wides[q];
                }
                int own = times[c * BAR_ROOM + k];
                int bound = own > 0 ? Math.floorDiv(rest, own) : rest;
                if (wider[c]) {
                    least = Math.max(least, bound + 1);
                } else {
                    greatest = Math.min(greatest, bound);
                }
            }
        }
    }

    /** The search for all fillings, bar by bar, by sets of names (bits) that may stand under each. */
    private static final class Fillings {
        final Lines lines = new Lines();
        private final int[] fits = new int[BAR_ROOM];
        private final int[] pairs = new int[BAR_ROOM * BAR_ROOM * NAME_ROOM];
        private final int[] wides = new int[NAME_ROOM];
        private final int[] weights = new int[NAME_ROOM];
        private final int[] under = new int[BAR_ROOM];
        private final int[] underWides = new int[BAR_ROOM];
        private final int[] reached = new int[BAR_ROOM];
        private final long[] odds = new long[BAR_ROOM * NAME_ROOM];
        private int bars;
        private int names;
        private boolean tied;
        private boolean lined;
        private long all;

        void begin(int barCount, int nameCount) {
            bars = Math.min(Math.max(barCount, 0), BAR_ROOM);
            names = Math.min(Math.max(nameCount, 0), NAME_ROOM);
            for (int p = 0; p < pairs.length; p++) {
                pairs[p] = -1;
            }
        }

        private static boolean isBar(int k) {
            return k >= 0 && k < BAR_ROOM;
        }

        private static boolean isName(int i) {
            return i >= 0 && i < NAME_ROOM;
        }

        private static int pairPlace(int x, int i, int y) {
            return (x * BAR_ROOM + y) * NAME_ROOM + i;
        }

        void setName(int i, int wide, int weight) {
            if (isName(i)) {
                wides[i] = wide;
                weights[i] = weight;
            }
        }

        int wide(int i) {
            return isName(i) ? wides[i] : 0;
        }

        /** If name i is under bar x, only these may be under bar y. */
        void pair(int x, int i, int y, int mates) {
            if (isBar(x) && isBar(y) && isName(i)) {
                pairs[pairPlace(x, i, y)] &= mates;
            }
        }

        /** The names that may be under bar y if name i is under bar x. */
        private int mates(int x, int i, int y) {
            return isBar(x) && isBar(y) && isName(i) ? pairs[pairPlace(x, i, y)] : 0;
        }

        void setFits(int k, int bits) {
            if (isBar(k)) {
                fits[k] = bits;
            }
        }

        void heed(boolean ties, boolean breaks) {
            tied = ties;
            lined = breaks;
        }

        /** Whether there may be fillings at all. */
        private boolean hopeful() {
            return bars > 0 && !(lined && lines.broken());
        }

        /** How many fillings there are. */
        int number() {
            return hopeful() ? countFrom(0) : 0;
        }

        /** How few names some bar has in all fillings together. */
        int fewest() {
            for (int k = 0; k < BAR_ROOM; k++) {
                reached[k] = 0;
            }
            if (!hopeful() || !reachFrom(0)) {
                return 0;
            }
            int fewest = NAME_ROOM;
            for (int k = 0; k < bars && k < BAR_ROOM; k++) {
                fewest = Math.min(fewest, Integer.bitCount(reached[k]));
            }
            return fewest;
        }

        /** Finds the odds of all names under all bars. */
        void weighAll() {
            for (int p = 0; p < odds.length; p++) {
                odds[p] = 0;
            }
            all = hopeful() ? weighFrom(0, 1) : 0;
        }

        long all() {
            return all;
        }

        long odds(int k, int i) {
            return isBar(k) && isName(i) ? odds[k * NAME_ROOM + i] : 0;
        }

        int may(int k) {
            int may = 0;
            for (int i = 0; i < NAME_ROOM; i++) {
                if (odds(k, i) != 0) {
                    may |= 1 << i;
                }
            }
            return may;
        }

        int likeliest(int k) {
            int best = 0;
            for (int i = 1; i < NAME_ROOM; i++) {
                if (odds(k, i) > odds(k, best)) {
                    best = i;
                }
            }
            return best;
        }

        /** The names that may stand under bar k behind those under the bars before. */
        private int candidates(int k) {
            int bits = isBar(k) ? fits[k] : 0;
            if (tied) {
                for (int q = 0; q < k && q < BAR_ROOM; q++) {
                    bits &= mates(q, under[q], k);
                }
            }
            if (lined && lines.heeds(k)) {
                lines.narrow(k, underWides);
                for (int i = 0; i < names && i < NAME_ROOM; i++) {
                    if (wides[i] < lines.least() || wides[i] > lines.greatest()) {
                        bits &= ~(1 << i);
                    }
                }
            }
            return bits;
        }

        private void put(int k, int i) {
            if (isBar(k) && isName(i)) {
                under[k] = i;
                underWides[k] = wides[i];
            }
        }

        private int countFrom(int k) {
            if (!isBar(k)) {
                return 0;
            }
            int bits = candidates(k);
            if (k >= bars - 1) {
                return Integer.bitCount(bits);
            }
            int many = 0;
            for (int i = 0; i < names && i < NAME_ROOM; i++) {
                if (bit(bits, i)) {
                    many += countBehind(k, i);
                }
            }
            return many;
        }

        private int countBehind(int k, int i) {
            put(k, i);
            return countFrom(k + 1);
        }

        /** Finds which names each bar has in some filling, without their odds. */
        private boolean reachFrom(int k) {
            if (!isBar(k)) {
                return false;
            }
            int bits = candidates(k);
            if (k < bars - 1) {
                for (int i = 0; i < names && i < NAME_ROOM; i++) {
                    if (bit(bits, i) && !reachBehind(k, i)) {
                        bits &= ~(1 << i);
                    }
                }
            }
            reached[k] |= bits;
            return bits != 0;
        }

        private boolean reachBehind(int k, int i) {
            put(k, i);
            return reachFrom(k + 1);
        }

        /** What the fillings are worth together that go on so; worth is that of the names so far. */
        private long weighFrom(int k, long worth) {
            if (!isBar(k)) {
                return 0;
            }
            int bits = candidates(k);
            long sum = 0;
            for (int i = 0; i < names && i < NAME_ROOM; i++) {
                if (bit(bits, i)) {
                    long more = worth * weights[i];
                    more = k < bars - 1 ? weighBehind(k, i, more) : more;
                    odds[k * NAME_ROOM + i] += more;
                    sum += more;
                }
            }
            return sum;
        }

        private long weighBehind(int k, int i, long worth) {
            put(k, i);
            return weighFrom(k + 1, worth);
        }
    }
}
