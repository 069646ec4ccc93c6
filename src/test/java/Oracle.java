import java.util.ArrayDeque;
import java.util.ArrayList;
import java.util.Comparator;
import java.util.Deque;
import java.util.HashMap;
import java.util.HashSet;
import java.util.List;
import java.util.Map;
import java.util.Set;

/** The document once more, written as plainly as can be and in another way than the class, to compare with. */
final class Oracle {
    record Term(int sign, int one, int other) {
    }

    /** A written term, letters being signs 'x', 'y', 'z'. */
    record Tree(char sign, List<Tree> parts, int place) {
        boolean isLetter() {
            return sign >= 'x';
        }

        Set<Character> letters() {
            Set<Character> all = new HashSet<>();
            if (isLetter()) {
                all.add(sign);
            }
            for (Tree part : parts) {
                all.addAll(part.letters());
            }
            return all;
        }

        int signs() {
            int count = isLetter() ? 0 : 1;
            for (Tree part : parts) {
                count += part.signs();
            }
            return count;
        }
    }

    record Rule(Tree left, Tree right) {
    }

    record Finding(int rule, int[] letters, int place, int generation) {
    }

    static final class Fault extends Exception {
        private static final long serialVersionUID = 1L;
        final int place;

        Fault(int place) {
            this.place = place;
        }
    }

    static final class NoRoom extends Exception {
        private static final long serialVersionUID = 1L;
    }

    static final class World {
        List<Term> terms = new ArrayList<>();
        List<Integer> generations = new ArrayList<>();
        /** Which pairs of terms are alike: a plain relation. */
        boolean[][] alike = new boolean[50][50];
        List<Rule> rules = new ArrayList<>();

        World copy() {
            World w = new World();
            w.terms.addAll(terms);
            w.generations.addAll(generations);
            w.rules.addAll(rules);
            for (int i = 0; i < 50; i++) {
                w.alike[i] = alike[i].clone();
            }
            return w;
        }

        int classOf(int t) {
            for (int u = 0; u < t; u++) {
                if (alike[u][t]) {
                    return u;
                }
            }
            return t;
        }

        List<Integer> classes() {
            List<Integer> all = new ArrayList<>();
            for (int t = 0; t < terms.size(); t++) {
                if (classOf(t) == t) {
                    all.add(t);
                }
            }
            return all;
        }

        int generationOf(int c) {
            int least = 99;
            for (int t = 0; t < terms.size(); t++) {
                if (alike[c][t]) {
                    least = Math.min(least, generations.get(t));
                }
            }
            return least;
        }

        int come(Term term, int generation) throws NoRoom {
            int t = terms.indexOf(term);
            if (t >= 0) {
                return t;
            }
            if (terms.size() == 50) {
                throw new NoRoom();
            }
            terms.add(term);
            generations.add(generation);
            t = terms.size() - 1;
            alike[t][t] = true;
            return t;
        }

        void tell(int t, int u) {
            alike[t][u] = true;
            alike[u][t] = true;
            close();
        }

        boolean partsAlike(int t, int u) {
            Term a = terms.get(t);
            Term b = terms.get(u);
            return a.sign == b.sign && (a.one < 0 || alike[a.one][b.one]) && (a.other < 0 || alike[a.other][b.other]);
        }

        /** Whatever follows: by parts, and from one to another. */
        void close() {
            int n = terms.size();
            boolean more = true;
            while (more) {
                more = false;
                for (int t = 0; t < n; t++) {
                    for (int u = 0; u < n; u++) {
                        if (!alike[t][u] && partsAlike(t, u)) {
                            alike[t][u] = true;
                            alike[u][t] = true;
                            more = true;
                        }
                    }
                }
                for (int k = 0; k < n; k++) {
                    for (int t = 0; t < n; t++) {
                        for (int u = 0; alike[t][k] && u < n; u++) {
                            if (alike[k][u] && !alike[t][u]) {
                                alike[t][u] = true;
                                more = true;
                            }
                        }
                    }
                }
            }
        }

        void empty() {
            World fresh = new World();
            terms = fresh.terms;
            generations = fresh.generations;
            alike = fresh.alike;
            rules = fresh.rules;
        }

        /** The class that stands for a tree, or -1. */
        int stand(Tree tree, Map<Character, Integer> letters) {
            if (tree.isLetter()) {
                return letters.get(tree.sign);
            }
            List<Integer> parts = new ArrayList<>();
            for (Tree part : tree.parts) {
                int c = stand(part, letters);
                if (c < 0) {
                    return -1;
                }
                parts.add(c);
            }
            for (int t = 0; t < terms.size(); t++) {
                Term term = terms.get(t);
                if (term.sign == "abcdfgh".indexOf(tree.sign)
                        && (parts.size() < 1 || alike[term.one][parts.get(0)])
                        && (parts.size() < 2 || alike[term.other][parts.get(1)])) {
                    return classOf(t);
                }
            }
            return -1;
        }

        List<Finding> findings(int r) {
            Rule rule = rules.get(r);
            Set<Character> used = rule.left.letters();
            List<Integer> none = List.of(-1);
            List<Integer> all = classes();
            List<Finding> found = new ArrayList<>();
            for (int x : used.contains('x') ? all : none) {
                for (int y : used.contains('y') ? all : none) {
                    for (int z : used.contains('z') ? all : none) {
                        int place = stand(rule.left, Map.of('x', x, 'y', y, 'z', z));
                        if (place >= 0 && found.size() < 200) {
                            int g = generationOf(place);
                            for (int c : new int[] {x, y, z}) {
                                g = Math.max(g, c < 0 ? 0 : generationOf(c));
                            }
                            found.add(new Finding(r, new int[] {x, y, z}, place, g + 1));
                        }
                    }
                }
            }
            return found;
        }

        int build(Tree tree, Map<Character, Integer> letters, int generation, List<Integer> made) throws NoRoom {
            if (tree.isLetter()) {
                return letters.get(tree.sign);
            }
            int one = -1;
            int other = -1;
            if (tree.parts.size() > 0) {
                one = build(tree.parts.get(0), letters, generation, made);
            }
            if (tree.parts.size() > 1) {
                other = build(tree.parts.get(1), letters, generation, made);
            }
            int t = come(new Term("abcdfgh".indexOf(tree.sign), one, other), generation);
            made.add(t);
            return t;
        }

        void assign(World w) {
            terms = w.terms;
            generations = w.generations;
            alike = w.alike;
            rules = w.rules;
        }
    }

    World world = new World();
    final Deque<World> states = new ArrayDeque<>();
    final int[] refused = new int[3];
    int[] last = new int[5];
    int order = 0;
    int limit = 3;
    String text = "";

    private int bad() {
        refused[0]++;
        return -2;
    }

    private boolean isTerm(int t) {
        return t >= 0 && t < world.terms.size();
    }

    private boolean isRule(int r) {
        return r >= 0 && r < world.rules.size();
    }

    private void keep(World ahead) {
        states.addLast(ahead);
        if (states.size() > 8) {
            states.removeFirst();
        }
    }

    int term(int sign, int one, int other) {
        if (sign < 0 || sign > 6 || (sign >= 4 && !isTerm(one)) || (sign == 6 && !isTerm(other))) {
            return bad();
        }
        World ahead = world.copy();
        try {
            int t = world.come(new Term(sign, sign >= 4 ? one : -1, sign == 6 ? other : -1), 0);
            world.generations.set(t, 0);
            world.close();
            keep(ahead);
            return t;
        } catch (NoRoom e) {
            refused[2]++;
            return -4;
        }
    }

    int alike(int t, int u) {
        if (!isTerm(t) || !isTerm(u)) {
            return bad();
        }
        keep(world.copy());
        int ahead = classes();
        world.tell(t, u);
        return ahead - classes();
    }

    int anew() {
        keep(world.copy());
        int ahead = world.terms.size();
        world.empty();
        return ahead;
    }

    int of(int t, int what) {
        if (!isTerm(t) || what < 0 || what > 4) {
            return bad();
        }
        Term term = world.terms.get(t);
        return List.of(term.sign, term.one, term.other, world.generations.get(t), world.classOf(t)).get(what);
    }

    int same(int t, int u) {
        if (!isTerm(t) || !isTerm(u)) {
            return bad();
        }
        return world.alike[t][u] ? 1 : 0;
    }

    int classes() {
        return world.classes().size();
    }

    int about(int t, int what) {
        if (!isTerm(t) || what < 0 || what > 3) {
            return bad();
        }
        int members = 0;
        int users = 0;
        for (int u = 0; u < world.terms.size(); u++) {
            Term term = world.terms.get(u);
            members += world.alike[t][u] ? 1 : 0;
            boolean uses = term.one >= 0 && world.alike[t][term.one] || term.other >= 0 && world.alike[t][term.other];
            users += uses ? 1 : 0;
        }
        int c = world.classOf(t);
        return List.of(members, world.generationOf(c), fewest(c), users).get(what);
    }

    /** By growing size: the classes whose fewest signs are settled, the smallest next. */
    private int fewest(int wanted) {
        Map<Integer, Long> settled = new HashMap<>();
        while (!settled.containsKey(wanted)) {
            long best = Long.MAX_VALUE;
            int bestClass = -1;
            for (int t = 0; t < world.terms.size(); t++) {
                Term term = world.terms.get(t);
                int c = world.classOf(t);
                Long one = term.one < 0 ? Long.valueOf(0) : settled.get(world.classOf(term.one));
                Long other = term.other < 0 ? Long.valueOf(0) : settled.get(world.classOf(term.other));
                if (!settled.containsKey(c) && one != null && other != null && 1 + one + other < best) {
                    best = 1 + one + other;
                    bestClass = c;
                }
            }
            settled.put(bestClass, best);
        }
        return (int) Math.min(1000000L, settled.get(wanted));
    }

    int rule(int r, int what) {
        if (!isRule(r) || what < 0 || what > 4) {
            return bad();
        }
        Rule rule = world.rules.get(r);
        List<Finding> found = world.findings(r);
        int inTime = (int) found.stream().filter(f -> f.generation <= limit).count();
        return List.of(rule.left.letters().size(), rule.left.signs(), rule.right.signs(), found.size(), inTime)
                .get(what);
    }

    int finding(int r, int k, int what) {
        if (!isRule(r) || k < 0 || what < 0 || what > 4) {
            return bad();
        }
        List<Finding> found = world.findings(r);
        if (k >= found.size()) {
            return -1;
        }
        Finding f = found.get(k);
        return List.of(f.letters[0], f.letters[1], f.letters[2], f.place, f.generation).get(what);
    }

    int drop(int r) {
        if (!isRule(r)) {
            return bad();
        }
        keep(world.copy());
        world.rules.remove(r);
        return world.rules.size();
    }

    int sets(int what, int v) {
        if (what == 0 && v >= 0 && v <= 3) {
            int was = order;
            order = v;
            return was;
        }
        if (what == 1 && v >= 0 && v <= 9) {
            int was = limit;
            limit = v;
            return was;
        }
        return bad();
    }

    int round() {
        keep(world.copy());
        return oneRound();
    }

    private int oneRound() {
        last = new int[5];
        List<Finding> all = new ArrayList<>();
        for (int r = 0; r < world.rules.size(); r++) {
            all.addAll(world.findings(r));
        }
        Comparator<Finding> by = switch (order) {
            case 1 -> Comparator.comparingInt(Finding::generation);
            case 2 -> Comparator.comparingInt(f -> -f.rule);
            case 3 -> Comparator.comparingInt(Finding::place);
            default -> Comparator.comparingInt(Finding::rule);
        };
        all.sort(by);
        int changed = 0;
        for (Finding f : all) {
            if (f.generation > limit) {
                last[1]++;
            } else if (doFinding(f)) {
                changed++;
            }
        }
        return changed;
    }

    private boolean doFinding(Finding f) {
        World ahead = world.copy();
        Map<Character, Integer> letters = new HashMap<>();
        for (int i = 0; i < 3; i++) {
            int c = f.letters[i];
            letters.put((char) ('x' + i), c < 0 ? -1 : world.classOf(c));
        }
        try {
            int t = world.build(world.rules.get(f.rule).right, letters, f.generation, new ArrayList<>());
            world.tell(t, f.place);
        } catch (NoRoom e) {
            world.assign(ahead);
            last[2]++;
            return false;
        }
        last[0]++;
        int came = world.terms.size() - ahead.terms.size();
        last[3] += came;
        boolean united = false;
        for (int t = 0; t < ahead.terms.size(); t++) {
            for (int u = 0; u < ahead.terms.size(); u++) {
                united |= world.alike[t][u] && !ahead.alike[t][u];
            }
        }
        last[4] += united ? 1 : 0;
        return came > 0 || united;
    }

    int rounds(int n) {
        if (n < 1 || n > 9) {
            return bad();
        }
        keep(world.copy());
        int count = 0;
        for (int i = 0; i < n; i++) {
            if (oneRound() == 0) {
                return count;
            }
            count++;
        }
        return count;
    }

    int last(int what) {
        return what < 0 || what > 4 ? bad() : last[what];
    }

    int still() {
        World ahead = world.copy();
        int[] lastAhead = last;
        int changed = oneRound();
        world.assign(ahead);
        last = lastAhead;
        return changed == 0 ? 1 : 0;
    }

    int type(int c) {
        if (c < 0 || c > 127) {
            return bad();
        }
        if (text.length() == 120) {
            refused[2]++;
            return -4;
        }
        text += (char) c;
        return text.length();
    }

    int clear() {
        int had = text.length();
        text = "";
        return had;
    }

    private int at;

    private char next() throws Fault {
        while (at < text.length() && text.charAt(at) == ' ') {
            at++;
        }
        if (at == text.length()) {
            throw new Fault(at);
        }
        return text.charAt(at);
    }

    private void expect(char c) throws Fault {
        if (next() != c) {
            throw new Fault(at);
        }
        at++;
    }

    private Tree tree(Set<Character> letters) throws Fault {
        char c = next();
        int place = at;
        if ("abcdfgh".indexOf(c) < 0 && !letters.contains(c)) {
            throw new Fault(at);
        }
        at++;
        List<Tree> parts = new ArrayList<>();
        if (c >= 'f' && c <= 'h') {
            expect('(');
            parts.add(tree(letters));
            if (c == 'h') {
                expect(',');
                parts.add(tree(letters));
            }
            expect(')');
        }
        return new Tree(c, parts, place);
    }

    private void sentence() throws Fault {
        Set<Character> all = Set.of('x', 'y', 'z');
        Tree left = tree(all);
        Tree right = null;
        char c = next();
        if (c == '>') {
            if (left.isLetter() || world.rules.size() == 6) {
                throw new Fault(at);
            }
            at++;
            right = tree(left.letters());
            expect(';');
            world.rules.add(new Rule(left, right));
            return;
        }
        if (!left.letters().isEmpty()) {
            throw new Fault(at);
        }
        if (c == '=') {
            at++;
            right = tree(all);
            next();
            if (!right.letters().isEmpty()) {
                throw new Fault(at);
            }
        }
        if (next() != ';') {
            throw new Fault(at);
        }
        try {
            List<Integer> made = new ArrayList<>();
            int t = world.build(left, Map.of(), 0, made);
            int u = right == null ? t : world.build(right, Map.of(), 0, made);
            for (int m : made) {
                world.generations.set(m, 0);
            }
            world.tell(t, u);
        } catch (NoRoom e) {
            throw new Fault(at);
        }
        at++;
    }

    int reads() {
        World ahead = world.copy();
        at = 0;
        int count = 0;
        try {
            do {
                next();
                sentence();
                count++;
            } while (text.substring(at).chars().anyMatch(c -> c != ' '));
        } catch (Fault f) {
            world.assign(ahead);
            return -10 - f.place;
        }
        keep(ahead);
        return count;
    }

    private String written(int t, int room) {
        Term term = world.terms.get(t);
        String sign = "abcdfgh".substring(term.sign, term.sign + 1);
        if (term.sign < 4 || room <= 0) {
            return sign;
        }
        String one = sign + "(" + written(term.one, room - 2);
        if (term.sign == 6) {
            one += "," + written(term.other, room - one.length() - 1);
        }
        return one + ")";
    }

    int writing(int t, int k) {
        if (!isTerm(t) || k < -1) {
            bad();
            return -10;
        }
        String all = written(t, 300);
        int length = Math.min(300, all.length());
        if (k == -1) {
            return length;
        }
        return k < length ? all.charAt(k) : -5;
    }

    int back() {
        if (states.isEmpty()) {
            refused[1]++;
            return -3;
        }
        world = states.removeLast();
        return states.size();
    }

    int told(int what) {
        if (what < 0 || what > 8) {
            return bad();
        }
        return List.of(refused[0], refused[1], refused[2], text.length(), world.terms.size(), world.rules.size(),
                order, limit, states.size()).get(what);
    }

    long digest() {
        List<Integer> all = new ArrayList<>();
        for (int what = 0; what <= 8; what++) {
            all.add(told(what));
        }
        for (int t = 0; t < world.terms.size(); t++) {
            for (int what = 0; what <= 4; what++) {
                all.add(of(t, what));
            }
        }
        all.add(classes());
        for (int r = 0; r < world.rules.size(); r++) {
            for (int what = 0; what <= 3; what++) {
                all.add(rule(r, what));
            }
        }
        long h = 2039;
        for (int v : all) {
            h = 31 * h + v;
        }
        return h;
    }
}
