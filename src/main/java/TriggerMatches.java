import java.util.Arrays;

/** Terms in classes that keep congruence, and rules that make more of them alike, by rounds. */
public final class TriggerMatches {
    public static final int NONE = -1, BAD = -2, NO = -3, FULL = -4;

    private static final int MOST_TERMS = 50;
    private static final int MOST_RULES = 6;
    private static final int MOST_FINDINGS = 200;
    private static final int MOST_BYTES = 120;
    private static final int MOST_STATES = 8;
    private static final int MOST_WRITTEN = 300;
    private static final int MOST_SIGNS = 1000000;
    private static final int MOST_LIMIT = 9;
    private static final int MOST_ORDER = 3;
    private static final int MOST_ROUNDS = 9;

    /** Signs below F have no parts, those below H one; X, X + 1, X + 2 are the letters. */
    private static final int F = 4, H = 6, X = 7;
    private static final int LETTERS = 3, ALL_LETTERS = 7;

    /** Answers of reads and writing that are no refusals by their own number. */
    private static final int FAULT = -10, BEHIND = -5, BAD_WRITING = -10;

    private static final String SIGNS = "abcdfgh";

    private final State now = new State();
    private final States states = new States();
    private final Standing standing = new Standing();
    private final Builder builder = new Builder(now.terms);
    private final Search search = new Search(now, standing);
    private final Round oneRound = new Round(now, standing, search, builder);
    private final Text text = new Text(now, builder);
    private final Writer writer = new Writer();
    private final int[] refused = new int[3];
    private int order = 0;
    private int limit = 3;

    public TriggerMatches() {
    }

    // ---- terms

    public int term(int sign, int one, int other) {
        if (sign < 0 || sign > H) {
            return refuse(BAD);
        }
        boolean needsOne = sign >= F;
        boolean needsOther = sign == H;
        if (needsOne && !now.terms.has(one) || needsOther && !now.terms.has(other)) {
            return refuse(BAD);
        }
        int p = needsOne ? one : NONE;
        int q = needsOther ? other : NONE;
        int t = now.terms.lookUp(sign, p, q);
        if (t == NONE && now.terms.size >= MOST_TERMS) {
            return refuse(FULL);
        }
        states.keep(now);
        if (t == NONE) {
            t = now.terms.add(sign, p, q, 0);
        } else {
            now.terms.generation[t] = 0;
        }
        settleAll();
        return t;
    }

    public int alike(int t, int u) {
        if (!now.terms.has(t) || !now.terms.has(u)) {
            return refuse(BAD);
        }
        states.keep(now);
        int ahead = classes();
        now.terms.unite(t, u);
        settleAll();
        return ahead - classes();
    }

    public int anew() {
        states.keep(now);
        int ahead = now.terms.size;
        now.empty();
        settleAll();
        return ahead;
    }

    public int of(int t, int what) {
        if (!now.terms.has(t)) {
            return refuse(BAD);
        }
        switch (what) {
            case 0: return now.terms.sign[t];
            case 1: return now.terms.one[t];
            case 2: return now.terms.other[t];
            case 3: return now.terms.generation[t];
            case 4: return now.terms.home[t];
            default: return refuse(BAD);
        }
    }

    public int same(int t, int u) {
        if (!now.terms.has(t) || !now.terms.has(u)) {
            return refuse(BAD);
        }
        return now.terms.home[t] == now.terms.home[u] ? 1 : 0;
    }

    public int classes() {
        return now.terms.countClasses(now.terms.size);
    }

    public int about(int t, int what) {
        if (!now.terms.has(t)) {
            return refuse(BAD);
        }
        int c = now.terms.home[t];
        switch (what) {
            case 0: return now.terms.countIn(c);
            case 1: return now.terms.leastGeneration(c);
            case 2: return standing.fewestSigns(now.terms, c);
            case 3: return now.terms.countUsers(c);
            default: return refuse(BAD);
        }
    }

    // ---- rules and findings

    public int rule(int r, int what) {
        if (!now.hasRule(r)) {
            return refuse(BAD);
        }
        Pattern p = now.ruleAt(r);
        switch (what) {
            case 0: return Integer.bitCount(p.lettersIn(0, p.left));
            case 1: return p.signsIn(0, p.left);
            case 2: return p.signsIn(p.left, p.size);
            case 3: return search.look(r).size;
            case 4: return search.look(r).countInTime(limit);
            default: return refuse(BAD);
        }
    }

    public int finding(int r, int k, int what) {
        if (!now.hasRule(r) || k < 0 || what < 0 || what > 4) {
            return refuse(BAD);
        }
        Findings found = search.look(r);
        return found.tell(k, what);
    }

    public int drop(int r) {
        if (!now.hasRule(r)) {
            return refuse(BAD);
        }
        states.keep(now);
        now.removeRule(r);
        search.forget();
        return now.rules;
    }

    public int sets(int what, int v) {
        int most = what == 0 ? MOST_ORDER : MOST_LIMIT;
        if (what < 0 || what > 1 || v < 0 || v > most) {
            return refuse(BAD);
        }
        int ahead = what == 0 ? order : limit;
        if (what == 0) {
            order = v;
        } else {
            limit = v;
        }
        return ahead;
    }

    public int round() {
        states.keep(now);
        return oneRound.run(order, limit);
    }

    public int rounds(int n) {
        if (n < 1 || n > MOST_ROUNDS) {
            return refuse(BAD);
        }
        states.keep(now);
        int changing = 0;
        while (changing < n && oneRound.run(order, limit) > 0) {
            changing++;
        }
        return changing;
    }

    public int last(int what) {
        if (what < 0 || what >= Round.COUNTS) {
            return refuse(BAD);
        }
        return oneRound.counts[what];
    }

    public int still() {
        return oneRound.wouldChange(limit) ? 0 : 1;
    }

    // ---- texts

    public int type(int c) {
        if (c < 0 || c > 127) {
            return refuse(BAD);
        }
        if (text.length >= MOST_BYTES) {
            return refuse(FULL);
        }
        text.bytes[text.length] = c;
        text.length++;
        return text.length;
    }

    public int clear() {
        int ahead = text.length;
        text.length = 0;
        return ahead;
    }

    public int reads() {
        states.prepare(now);
        int answer = text.read();
        if (answer > 0) {
            states.keepPrepared();
        } else {
            states.undo(now);
        }
        settleAll();
        return answer;
    }

    public int writing(int t, int k) {
        if (!now.terms.has(t) || k < NONE) {
            refuse(BAD);
            return BAD_WRITING;
        }
        int length = writer.write(now.terms, t);
        if (k == NONE) {
            return length;
        }
        return k < length ? writer.page[k] : BEHIND;
    }

    public int back() {
        if (states.size == 0) {
            return refuse(NO);
        }
        states.goBack(now);
        settleAll();
        return states.size;
    }

    public int told(int what) {
        switch (what) {
            case 0:
            case 1:
            case 2: return refused[what];
            case 3: return text.length;
            case 4: return now.terms.size;
            case 5: return now.rules;
            case 6: return order;
            case 7: return limit;
            case 8: return states.size;
            default: return refuse(BAD);
        }
    }

    public long digest() {
        long h = 2039L;
        for (int what = 0; what <= 8; what++) {
            h = 31L * h + told(what);
        }
        for (int t = 0; t < now.terms.size; t++) {
            for (int what = 0; what <= 4; what++) {
                h = 31L * h + of(t, what);
            }
        }
        h = 31L * h + classes();
        for (int r = 0; r < now.rules; r++) {
            for (int what = 0; what <= 3; what++) {
                h = 31L * h + rule(r, what);
            }
        }
        return h;
    }

    private int refuse(int why) {
        int i = BAD - why;
        if (i >= 0 && i < refused.length) {
            refused[i]++;
        }
        return why;
    }

    /** What follows from a change of TERMS, CLASSES or RULES. */
    private void settleAll() {
        standing.settle(now.terms);
        search.forget();
    }

    /** TERMS and the CLASSES they are in: home is the least TERM of a TERM's CLASS. */
    private static final class Terms {
        int size = 0;
        final int[] sign = new int[MOST_TERMS];
        final int[] one = new int[MOST_TERMS];
        final int[] other = new int[MOST_TERMS];
        final int[] generation = new int[MOST_TERMS];
        final int[] home = new int[MOST_TERMS];

        void copyFrom(Terms from) {
            size = from.size;
            System.arraycopy(from.sign, 0, sign, 0, MOST_TERMS);
            System.arraycopy(from.one, 0, one, 0, MOST_TERMS);
            System.arraycopy(from.other, 0, other, 0, MOST_TERMS);
            System.arraycopy(from.generation, 0, generation, 0, MOST_TERMS);
            System.arraycopy(from.home, 0, home, 0, MOST_TERMS);
        }

        boolean has(int t) {
            return t >= 0 && t < size;
        }

        int homeOf(int t) {
            return has(t) ? home[t] : NONE;
        }

        /** The TERM of just this SIGN and these PARTS, or NONE. */
        int lookUp(int s, int p, int q) {
            for (int t = 0; t < size; t++) {
                if (sign[t] == s && one[t] == p && other[t] == q) {
                    return t;
                }
            }
            return NONE;
        }

        /** A TERM comes, in a CLASS of its own until CLASSES are settled; NONE if there is no room. */
        int add(int s, int p, int q, int g) {
            if (size >= MOST_TERMS) {
                return NONE;
            }
            sign[size] = s;
            one[size] = p;
            other[size] = q;
            generation[size] = g;
            home[size] = size;
            size++;
            return size - 1;
        }

        boolean unite(int t, int u) {
            int a = homeOf(t);
            int b = homeOf(u);
            if (a == b || a < 0 || b < 0) {
                return false;
            }
            int low = Math.min(a, b);
            int high = Math.max(a, b);
            for (int i = high; i < size; i++) {
                if (home[i] == high) {
                    home[i] = low;
                }
            }
            return true;
        }

        /** How many CLASSES the TERMS below a number are in. */
        int countClasses(int below) {
            int count = 0;
            for (int t = 0; t < below && t < size; t++) {
                if (home[t] == t) {
                    count++;
                }
            }
            return count;
        }

        int countIn(int c) {
            int count = 0;
            for (int t = 0; t < size; t++) {
                if (home[t] == c) {
                    count++;
                }
            }
            return count;
        }

        int countUsers(int c) {
            int count = 0;
            for (int t = 0; t < size; t++) {
                if (homeOf(one[t]) == c || homeOf(other[t]) == c) {
                    count++;
                }
            }
            return count;
        }

        int leastGeneration(int c) {
            int least = MOST_LIMIT;
            for (int t = 0; t < size; t++) {
                if (home[t] == c) {
                    least = Math.min(least, generation[t]);
                }
            }
            return least;
        }
    }

    /** What stands among CLASSES: settled whenever TERMS or their CLASSES change. */
    private static final class Standing {
        static final int KEYS = F + 2 * MOST_TERMS + MOST_TERMS * MOST_TERMS;

        /** By key: the CLASS of the TERMS of a SIGN with PARTS in two CLASSES, or NONE. */
        final int[] place = new int[KEYS];
        /** The keys whose place is told: it is far quicker to empty these than all. */
        private final int[] used = new int[MOST_TERMS];
        private int usedSize = 0;
        /** By SIGN: the CLASSES, as bits, that the first PARTS of its TERMS are in. */
        private final long[] firsts = new long[X];
        /** Those of the second PARTS of h. */
        private long seconds = 0L;
        /** By CLASS of the second PART of h: the CLASSES of the first ones that go with it. */
        private final long[] firstsWith = new long[MOST_TERMS];
        /** By CLASS of the first PART of h: the CLASSES of the second ones that go with it. */
        private final long[] secondsWith = new long[MOST_TERMS];
        private final int[] fewest = new int[MOST_TERMS];

        Standing() {
            Arrays.fill(place, NONE);
        }

        static int keyOf(int s, int p, int q) {
            if (s < 0 || s > H) {
                return NONE;
            }
            if (s < F) {
                return s;
            }
            if (p < 0 || p >= MOST_TERMS) {
                return NONE;
            }
            if (s < H) {
                return F + (s - F) * MOST_TERMS + p;
            }
            if (q < 0 || q >= MOST_TERMS) {
                return NONE;
            }
            return F + (2 + p) * MOST_TERMS + q;
        }

        /** Makes all TERMS of a SIGN with PARTS that are ALIKE each ALIKE, and tells the places. */
        void settle(Terms terms) {
            boolean more = true;
            // a sweep that unites leaves a CLASS less, so there are never more of them than TERMS
            for (int sweeps = 0; more && sweeps <= MOST_TERMS; sweeps++) {
                more = sweep(terms);
            }
        }

        private boolean sweep(Terms terms) {
            emptyPlaces();
            boolean united = false;
            for (int t = 0; t < terms.size; t++) {
                int key = keyOf(terms.sign[t], terms.homeOf(terms.one[t]), terms.homeOf(terms.other[t]));
                if (key < 0) {
                    continue;
                }
                if (place[key] == NONE) {
                    tellPlace(key, terms.home[t]);
                } else if (terms.unite(place[key], t)) {
                    united = true;
                }
            }
            return united;
        }

        private void emptyPlaces() {
            for (int i = 0; i < usedSize; i++) {
                place[used[i]] = NONE;
            }
            usedSize = 0;
        }

        private void tellPlace(int key, int c) {
            if (usedSize < MOST_TERMS) {
                place[key] = c;
                used[usedSize] = key;
                usedSize++;
            }
        }

        /** Marks which CLASSES are PARTS, for a look at them. */
        void markParts(Terms terms) {
            Arrays.fill(firsts, 0L);
            Arrays.fill(firstsWith, 0L);
            Arrays.fill(secondsWith, 0L);
            seconds = 0L;
            for (int t = 0; t < terms.size; t++) {
                int p = terms.homeOf(terms.one[t]);
                int q = terms.homeOf(terms.other[t]);
                int s = terms.sign[t];
                if (p >= 0 && s >= 0 && s < X) {
                    firsts[s] |= 1L << p;
                }
                if (p >= 0 && q >= 0) {
                    seconds |= 1L << q;
                    firstsWith[q] |= 1L << p;
                    secondsWith[p] |= 1L << q;
                }
            }
        }

        /** The CLASSES of first PARTS of a SIGN's TERMS, of those alone with this second one if it is known. */
        long firstsFor(int s, int second) {
            if (second >= 0 && second < MOST_TERMS) {
                return firstsWith[second];
            }
            return s >= 0 && s < X ? firsts[s] : 0L;
        }

        /** The CLASSES of second PARTS of h, of those alone with this first one if it is known. */
        long secondsFor(int first) {
            return first >= 0 && first < MOST_TERMS ? secondsWith[first] : seconds;
        }

        /** The fewest SIGNS of a text for a CLASS: each pass ends with one more CLASS at its fewest. */
        int fewestSigns(Terms terms, int c) {
            Arrays.fill(fewest, MOST_SIGNS);
            boolean more = true;
            for (int pass = 0; more && pass <= MOST_TERMS; pass++) {
                more = false;
                for (int t = 0; t < terms.size; t++) {
                    int signs = 1 + fewestOf(terms.homeOf(terms.one[t])) + fewestOf(terms.homeOf(terms.other[t]));
                    int home = terms.home[t];
                    if (signs < fewestOf(home)) {
                        fewest[home] = signs;
                        more = true;
                    }
                }
            }
            return fewestOf(c);
        }

        private int fewestOf(int c) {
            return c >= 0 && c < MOST_TERMS ? fewest[c] : 0;
        }
    }

    /** The two sides of a SENTENCE: nodes, parts ahead of what they are parts of, LEFT's ahead of RIGHT's. */
    private static final class Pattern {
        int size = 0;
        /** How many nodes LEFT has. */
        int left = 0;
        final int[] sign;
        final int[] one;
        final int[] other;
        /** 0: no LETTERS in the node; 1, 2, 3: x, y, z is the last of those in it. */
        final int[] stage;

        Pattern(int room) {
            int most = Math.max(0, room);
            sign = new int[most];
            one = new int[most];
            other = new int[most];
            stage = new int[most];
        }

        void empty() {
            size = 0;
            left = 0;
        }

        int add(int s, int p, int q) {
            if (size >= sign.length) {
                return NONE;
            }
            sign[size] = s;
            one[size] = p;
            other[size] = q;
            stage[size] = s >= X ? s - X + 1 : Math.max(stageOf(p), stageOf(q));
            size++;
            return size - 1;
        }

        int stageOf(int node) {
            return node >= 0 && node < size ? stage[node] : 0;
        }

        boolean isLetter(int node, int letter) {
            return node >= 0 && node < size && sign[node] == X + letter;
        }

        /** The LETTERS of some nodes, as bits. */
        int lettersIn(int from, int to) {
            int letters = 0;
            for (int i = from; i < to && i < size; i++) {
                if (sign[i] >= X) {
                    letters |= 1 << (sign[i] - X);
                }
            }
            return letters;
        }

        int signsIn(int from, int to) {
            int count = 0;
            for (int i = from; i < to && i < size; i++) {
                if (sign[i] < X) {
                    count++;
                }
            }
            return count;
        }

        /** One of its own with just the room it needs. */
        Pattern copied() {
            Pattern copy = new Pattern(size);
            System.arraycopy(sign, 0, copy.sign, 0, size);
            System.arraycopy(one, 0, copy.one, 0, size);
            System.arraycopy(other, 0, copy.other, 0, size);
            System.arraycopy(stage, 0, copy.stage, 0, size);
            copy.size = size;
            copy.left = left;
            return copy;
        }
    }

    /** TERMS, CLASSES and RULES. RULES never change once they are made, so copies share them. */
    private static final class State {
        final Terms terms = new Terms();
        final Pattern[] patterns = new Pattern[MOST_RULES];
        int rules = 0;
        private final Pattern blank = new Pattern(0);

        State() {
            for (int r = 0; r < MOST_RULES; r++) {
                patterns[r] = blank;
            }
        }

        void copyFrom(State from) {
            terms.copyFrom(from.terms);
            rules = from.rules;
            for (int r = 0; r < MOST_RULES; r++) {
                patterns[r] = from.patterns[r];
            }
        }

        void empty() {
            terms.size = 0;
            rules = 0;
        }

        boolean hasRule(int r) {
            return r >= 0 && r < rules;
        }

        Pattern ruleAt(int r) {
            return hasRule(r) ? patterns[r] : blank;
        }

        void addRule(Pattern pattern) {
            if (rules < MOST_RULES) {
                patterns[rules] = pattern;
                rules++;
            }
        }

        void removeRule(int r) {
            if (!hasRule(r)) {
                return;
            }
            for (int i = r; i + 1 < rules; i++) {
                patterns[i] = patterns[i + 1];
            }
            rules--;
        }
    }

    /** The STATES to go back to, in a ring with a slot to spare, so that preparing one loses none. */
    private static final class States {
        private static final int SLOTS = MOST_STATES + 1;
        private final State[] slots = new State[SLOTS];
        private int spare = 0;
        int size = 0;

        States() {
            for (int i = 0; i < SLOTS; i++) {
                slots[i] = new State();
            }
        }

        void prepare(State now) {
            slots[spare].copyFrom(now);
        }

        void keepPrepared() {
            spare = (spare + 1) % SLOTS;
            size = Math.min(MOST_STATES, size + 1);
        }

        void keep(State now) {
            prepare(now);
            keepPrepared();
        }

        void undo(State now) {
            now.copyFrom(slots[spare]);
        }

        void goBack(State now) {
            if (size > 0) {
                size--;
                spare = (spare + SLOTS - 1) % SLOTS;
                now.copyFrom(slots[spare]);
            }
        }
    }

    /** FINDINGS, each in one long to save room: digits of six bits, 1 more than they tell, as NONE is told too. */
    private static final class Findings {
        static final int PLACE = 3, GENERATION = 4, RULE = 5;
        private static final int BITS = 6;
        private static final long DIGIT = 63L;
        private final long[] packed;
        int size = 0;

        Findings(int room) {
            packed = new long[Math.max(0, room)];
        }

        boolean isFull() {
            return size >= packed.length;
        }

        void add(int r, int x, int y, int z, int place, int generation) {
            if (isFull()) {
                return;
            }
            long digits = r + 1;
            digits = digits << BITS | (generation + 1);
            digits = digits << BITS | (place + 1);
            digits = digits << BITS | (z + 1);
            digits = digits << BITS | (y + 1);
            digits = digits << BITS | (x + 1);
            packed[size] = digits;
            size++;
        }

        void addFrom(Findings from, int k) {
            if (!isFull() && k >= 0 && k < from.size) {
                packed[size] = from.packed[k];
                size++;
            }
        }

        /** Of the k-th one: CLASSES of LETTERS (0, 1, 2), PLACE, GENERATION, RULE. */
        int tell(int k, int what) {
            if (k < 0 || k >= size || what < 0 || what > RULE) {
                return NONE;
            }
            return (int) (packed[k] >> BITS * what & DIGIT) - 1;
        }

        boolean isLate(int k, int limit) {
            return tell(k, GENERATION) > limit;
        }

        int countInTime(int limit) {
            int count = 0;
            for (int k = 0; k < size; k++) {
                if (!isLate(k, limit)) {
                    count++;
                }
            }
            return count;
        }
    }

    /** Looks for the FINDINGS of a RULE: a CLASS for x, then y, then z, each as soon as its nodes stand. */
    private static final class Search {
        private final State now;
        private final Standing standing;
        private final Findings found = new Findings(MOST_FINDINGS);
        private int foundRule = NONE;
        private final int[] least = new int[MOST_TERMS];
        private final int[] value = new int[MOST_BYTES];
        private final int[] chosen = new int[LETTERS];

        Search(State now, Standing standing) {
            this.now = now;
            this.standing = standing;
        }

        /** What was found is kept for further looks; this says that it may hold no more. */
        void forget() {
            foundRule = NONE;
        }

        Findings look(int r) {
            if (r == foundRule) {
                return found;
            }
            found.size = 0;
            foundRule = r;
            markGenerations();
            standing.markParts(now.terms);
            Pattern pattern = now.ruleAt(r);
            if (stands(pattern, 0)) {
                choose(pattern, pattern.lettersIn(0, pattern.left), 0);
            }
            return found;
        }

        private void markGenerations() {
            Arrays.fill(least, MOST_LIMIT);
            Terms terms = now.terms;
            for (int t = 0; t < terms.size; t++) {
                int c = terms.home[t];
                if (c >= 0 && c < MOST_TERMS) {
                    least[c] = Math.min(least[c], terms.generation[t]);
                }
            }
        }

        private void choose(Pattern pattern, int letters, int letter) {
            if (letter >= LETTERS) {
                note(pattern);
                return;
            }
            if ((letters >> letter & 1) == 0) {
                chosen[letter] = NONE;
                choose(pattern, letters, letter + 1);
                return;
            }
            long fit = fitting(pattern, letter);
            for (int c = 0; c < now.terms.size && !found.isFull(); c++) {
                if ((fit >>> c & 1L) == 0L) {
                    continue;
                }
                chosen[letter] = c;
                if (stands(pattern, letter + 1)) {
                    choose(pattern, letters, letter + 1);
                }
            }
        }

        /** The CLASSES that a LETTER may stand for, by the TERMS that the nodes around it ask for. */
        private long fitting(Pattern pattern, int letter) {
            // a LETTER of LEFT is always a part of a node there, so what stays are names of CLASSES
            long fit = -1L;
            for (int i = 0; i < pattern.left; i++) {
                if (pattern.isLetter(pattern.one[i], letter)) {
                    fit &= standing.firstsFor(pattern.sign[i], knownValue(pattern, pattern.other[i], letter));
                }
                if (pattern.isLetter(pattern.other[i], letter)) {
                    fit &= standing.secondsFor(knownValue(pattern, pattern.one[i], letter));
                }
            }
            return fit;
        }

        /** The CLASS of a node, if the LETTERS ahead of this one settle it, or NONE. */
        private int knownValue(Pattern pattern, int node, int letter) {
            return pattern.stageOf(node) <= letter ? valueOf(node) : NONE;
        }

        private int valueOf(int node) {
            return node >= 0 && node < MOST_BYTES ? value[node] : NONE;
        }

        /** Whether the nodes of LEFT that wait for this stage stand; their CLASSES are noted. */
        private boolean stands(Pattern pattern, int stage) {
            for (int i = 0; i < pattern.left && i < MOST_BYTES; i++) {
                if (pattern.stage[i] != stage) {
                    continue;
                }
                if (pattern.sign[i] >= X) {
                    value[i] = chosenFor(pattern.sign[i] - X);
                } else {
                    int key = Standing.keyOf(pattern.sign[i], valueOf(pattern.one[i]), valueOf(pattern.other[i]));
                    value[i] = key < 0 ? NONE : standing.place[key];
                }
                if (value[i] == NONE) {
                    return false;
                }
            }
            return true;
        }

        private int chosenFor(int letter) {
            return letter >= 0 && letter < LETTERS ? chosen[letter] : NONE;
        }

        private void note(Pattern pattern) {
            int place = valueOf(pattern.left - 1);
            int greatest = leastOf(place);
            for (int letter = 0; letter < LETTERS; letter++) {
                greatest = Math.max(greatest, leastOf(chosen[letter]));
            }
            found.add(foundRule, chosen[0], chosen[1], chosen[2], place, greatest + 1);
        }

        private int leastOf(int c) {
            return c >= 0 && c < MOST_TERMS ? least[c] : 0;
        }
    }

    /** Lets the nodes of a side come as TERMS. */
    private static final class Builder {
        private final Terms terms;
        /** The TERMS that stand for LETTERS. */
        final int[] letter = new int[LETTERS];
        /** By node: its TERM. */
        final int[] made = new int[MOST_BYTES];

        Builder(Terms terms) {
            this.terms = terms;
        }

        /** The TERM of the last one of some nodes; NONE, and none comes, if there is no room. */
        int build(Pattern pattern, int from, int to, int generation) {
            int ahead = terms.size;
            int t = NONE;
            for (int i = from; i < to && i < pattern.size && i < MOST_BYTES; i++) {
                t = termOf(pattern, i, generation);
                made[i] = t;
                if (t == NONE) {
                    terms.size = ahead;
                    return NONE;
                }
            }
            return t;
        }

        private int termOf(Pattern pattern, int i, int generation) {
            int s = pattern.sign[i];
            if (s >= X) {
                return s < X + LETTERS ? letter[s - X] : NONE;
            }
            int p = madeOf(pattern.one[i]);
            int q = madeOf(pattern.other[i]);
            int t = terms.lookUp(s, p, q);
            return t == NONE ? terms.add(s, p, q, generation) : t;
        }

        int madeOf(int node) {
            return node >= 0 && node < MOST_BYTES ? made[node] : NONE;
        }
    }

    /** A ROUND and what it leaves to tell. */
    private static final class Round {
        static final int COUNTS = 5;
        private static final int DONE = 0, LATE = 1, LEFT_OUT = 2, CAME = 3, UNITED = 4;
        private static final int MOST = MOST_RULES * MOST_FINDINGS;

        private final State now;
        private final Standing standing;
        private final Search search;
        private final Builder builder;
        private final Findings todo = new Findings(MOST);
        private final int[] sequence = new int[MOST];
        private final int[] starts = new int[MOST_TERMS + 1];
        final int[] counts = new int[COUNTS];

        Round(State now, Standing standing, Search search, Builder builder) {
            this.now = now;
            this.standing = standing;
            this.search = search;
            this.builder = builder;
        }

        /** How many FINDINGS changed anything. */
        int run(int order, int limit) {
            Arrays.fill(counts, 0);
            collect(limit);
            arrange(order);
            int changed = 0;
            for (int i = 0; i < todo.size; i++) {
                if (doOne(sequence[i])) {
                    changed++;
                }
            }
            search.forget();
            return changed;
        }

        private void collect(int limit) {
            todo.size = 0;
            for (int r = 0; r < now.rules; r++) {
                Findings found = search.look(r);
                for (int k = 0; k < found.size; k++) {
                    if (found.isLate(k, limit)) {
                        counts[LATE]++;
                    } else {
                        todo.addFrom(found, k);
                    }
                }
            }
        }

        /** Sorts by counting: FINDINGS of the same key stay as they came. */
        private void arrange(int order) {
            Arrays.fill(starts, 0);
            for (int i = 0; i < todo.size; i++) {
                starts[keyOf(order, i) + 1]++;
            }
            for (int key = 1; key <= MOST_TERMS; key++) {
                starts[key] += starts[key - 1];
            }
            for (int i = 0; i < todo.size; i++) {
                int key = keyOf(order, i);
                int at = starts[key];
                starts[key]++;
                if (at >= 0 && at < MOST) {
                    sequence[at] = i;
                }
            }
        }

        /** A number below MOST_TERMS by which THE ORDER goes. */
        private int keyOf(int order, int i) {
            int key;
            switch (order) {
                case 1: key = todo.tell(i, Findings.GENERATION); break;
                case 2: key = MOST_RULES - 1 - todo.tell(i, Findings.RULE); break;
                case 3: key = todo.tell(i, Findings.PLACE); break;
                default: key = todo.tell(i, Findings.RULE); break;
            }
            return Math.max(0, Math.min(MOST_TERMS - 1, key));
        }

        /** Does a FINDING, if there is room: whether anything changed. */
        private boolean doOne(int i) {
            Terms terms = now.terms;
            int ahead = terms.size;
            int classesAhead = terms.countClasses(ahead);
            int t = buildRight(todo, i);
            if (t == NONE) {
                counts[LEFT_OUT]++;
                return false;
            }
            counts[DONE]++;
            int came = terms.size - ahead;
            boolean unites = terms.unite(t, todo.tell(i, Findings.PLACE));
            if (came == 0 && !unites) {
                return false;
            }
            standing.settle(terms);
            counts[CAME] += came;
            boolean fewer = terms.countClasses(ahead) < classesAhead;
            if (fewer) {
                counts[UNITED]++;
            }
            return came > 0 || fewer;
        }

        /** RIGHT with the least TERMS that the CLASSES of LETTERS have by now. */
        private int buildRight(Findings from, int i) {
            for (int letter = 0; letter < LETTERS; letter++) {
                builder.letter[letter] = now.terms.homeOf(from.tell(i, letter));
            }
            Pattern pattern = now.ruleAt(from.tell(i, Findings.RULE));
            return builder.build(pattern, pattern.left, pattern.size, from.tell(i, Findings.GENERATION));
        }

        /** The first FINDING that changed anything would do so now, so each can be tried by itself. */
        boolean wouldChange(int limit) {
            for (int r = 0; r < now.rules; r++) {
                Findings found = search.look(r);
                for (int k = 0; k < found.size; k++) {
                    if (!found.isLate(k, limit) && wouldChangeBy(found, k)) {
                        return true;
                    }
                }
            }
            return false;
        }

        private boolean wouldChangeBy(Findings found, int k) {
            int ahead = now.terms.size;
            int t = buildRight(found, k);
            boolean came = now.terms.size > ahead;
            now.terms.size = ahead;
            return t != NONE && (came || now.terms.homeOf(t) != found.tell(k, Findings.PLACE));
        }
    }

    /** THE TEXT and how it is read; place is where it stands, at a FAULT the FAULT. */
    private static final class Text {
        final int[] bytes = new int[MOST_BYTES];
        int length = 0;
        private final State now;
        private final Builder builder;
        private final Pattern pattern = new Pattern(MOST_BYTES);
        /** The SIGNS that are open, and their first parts, if these are read already. */
        private final int[] openSign = new int[MOST_BYTES];
        private final int[] openFirst = new int[MOST_BYTES];
        private int depth = 0;
        private int place = 0;

        Text(State now, Builder builder) {
            this.now = now;
            this.builder = builder;
        }

        /** Does SENTENCES until a FAULT; the caller settles CLASSES, or undoes it all at a FAULT. */
        int read() {
            place = 0;
            int sentences = 0;
            while (sentences < MOST_BYTES && peek() != NONE) {
                if (!sentence()) {
                    return FAULT - place;
                }
                sentences++;
            }
            return sentences == 0 ? FAULT - place : sentences;
        }

        /** The byte behind blanks, or NONE at the end. */
        private int peek() {
            while (place < length && bytes[place] == ' ') {
                place++;
            }
            return place < length ? bytes[place] : NONE;
        }

        private boolean take(int c) {
            if (peek() != c) {
                return false;
            }
            place++;
            return true;
        }

        private boolean sentence() {
            pattern.empty();
            if (!readSide(ALL_LETTERS)) {
                return false;
            }
            pattern.left = pattern.size;
            int letters = pattern.lettersIn(0, pattern.left);
            if (peek() == '>') {
                return ruleSentence(letters);
            }
            if (letters != 0) {
                return false;
            }
            if (take('=') && !readSide(ALL_LETTERS)) {
                return false;
            }
            return termSentence();
        }

        private boolean ruleSentence(int letters) {
            boolean letterAlone = pattern.left == 1 && letters != 0;
            if (letterAlone || now.rules >= MOST_RULES || !take('>')) {
                return false;
            }
            if (!readSide(letters) || !take(';')) {
                return false;
            }
            now.addRule(pattern.copied());
            return true;
        }

        /** One TERM, or two that become ALIKE. */
        private boolean termSentence() {
            if (peek() != ';' || pattern.lettersIn(0, pattern.size) != 0) {
                return false;
            }
            if (builder.build(pattern, 0, pattern.size, 0) == NONE) {
                return false;
            }
            Terms terms = now.terms;
            for (int i = 0; i < pattern.size; i++) {
                int t = builder.madeOf(i);
                if (terms.has(t)) {
                    terms.generation[t] = 0;
                }
            }
            terms.unite(builder.madeOf(pattern.left - 1), builder.madeOf(pattern.size - 1));
            return take(';');
        }

        /** Reads a TERM, LETTERS among those allowed being in it too, behind the nodes that are there. */
        private boolean readSide(int allowed) {
            depth = 0;
            for (int step = 0; step <= MOST_BYTES; step++) {
                int s = signOf(peek());
                if (s == NONE || s >= X && (allowed >> (s - X) & 1) == 0) {
                    return false;
                }
                place++;
                if (s >= F && s <= H) {
                    if (!take('(') || !open(s)) {
                        return false;
                    }
                } else if (!closeBehind(pattern.add(s, NONE, NONE))) {
                    return false;
                } else if (depth == 0) {
                    return true;
                }
            }
            return false;
        }

        private boolean open(int s) {
            if (depth >= MOST_BYTES) {
                return false;
            }
            openSign[depth] = s;
            openFirst[depth] = NONE;
            depth++;
            return true;
        }

        /** Behind a whole part: closes what ends with it, up to where another part is due. */
        private boolean closeBehind(int part) {
            int node = part;
            while (depth > 0) {
                int top = depth - 1;
                if (openSign[top] == H && openFirst[top] == NONE) {
                    openFirst[top] = node;
                    return take(',');
                }
                if (!take(')')) {
                    return false;
                }
                boolean two = openSign[top] == H;
                node = pattern.add(openSign[top], two ? openFirst[top] : node, two ? node : NONE);
                depth--;
            }
            return true;
        }

        private static int signOf(int c) {
            if (c >= 'x' && c <= 'z') {
                return X + c - 'x';
            }
            for (int s = 0; s < X; s++) {
                if (SIGNS.charAt(s) == c) {
                    return s;
                }
            }
            return NONE;
        }
    }

    /** Writes a TERM out. */
    private static final class Writer {
        /** A TERM leaves at most four things to write while its parts are written. */
        private static final int STACK = 5 * (MOST_TERMS + 1);

        final int[] page = new int[MOST_WRITTEN];
        /** What is to be written yet, the next one last: TERMS, and bytes less than NONE by their number. */
        private final int[] stack = new int[STACK];
        private int depth = 0;
        private int length = 0;

        int write(Terms terms, int t) {
            depth = 0;
            length = 0;
            push(t);
            while (depth > 0 && length < MOST_WRITTEN) {
                depth--;
                int item = stack[depth];
                if (terms.has(item)) {
                    writeTerm(terms, item);
                } else {
                    page[length] = NONE - item;
                }
                length++;
            }
            return length;
        }

        private void writeTerm(Terms terms, int t) {
            int s = terms.sign[t];
            page[length] = s >= 0 && s < X ? SIGNS.charAt(s) : ' ';
            if (s < F) {
                return;
            }
            push(NONE - ')');
            if (s == H) {
                push(terms.other[t]);
                push(NONE - ',');
            }
            push(terms.one[t]);
            push(NONE - '(');
        }

        private void push(int item) {
            if (depth < STACK) {
                stack[depth] = item;
                depth++;
            }
        }
    }
}
