import java.util.ArrayList;
import java.util.List;
import java.util.Random;

/** Runs of calls, made by fixed seeds, on the class and on the oracle: every answer must be the same. */
public final class RandomRunsTest {
    /** An object is good for 512 calls; a step makes a dozen at most beside the bytes that it types. */
    private static final int MOST_CALLS = 512, STEP = 12;

    private final Random random;
    private final TriggerMatches x = new TriggerMatches();
    private final Oracle y = new Oracle();
    private final List<String> calls = new ArrayList<>();
    private final int flavour;
    private int made = 0;
    private boolean wrong = false;

    private RandomRunsTest(long seed) {
        random = new Random(seed);
        flavour = (int) (seed % 6);
    }

    public static void main(String[] args) {
        int runs = args.length > 0 ? Integer.parseInt(args[0]) : 1500;
        int from = args.length > 1 ? Integer.parseInt(args[1]) : 0;
        int wrongRuns = 0;
        for (int seed = from; seed < from + runs && wrongRuns < 3; seed++) {
            RandomRunsTest run = new RandomRunsTest(seed);
            run.go();
            if (run.wrong) {
                wrongRuns++;
                System.out.println("seed " + seed + ": " + String.join(" ", run.calls));
            }
        }
        System.out.println("RandomRunsTest: " + runs + " runs, " + wrongRuns + " of them wrong");
        if (wrongRuns > 0) {
            System.exit(1);
        }
    }

    private boolean due(String call, long got, long want) {
        made++;
        calls.add(call + "=" + got);
        if (got != want && !wrong) {
            wrong = true;
            System.out.println(call + " answered " + got + ", due is " + want);
        }
        return got == want;
    }

    private void go() {
        if (flavour == 3) {
            crowd();
        }
        while (!wrong && made <= MOST_CALLS - STEP) {
            step();
        }
    }

    /** So many first parts in one class that a rule of two or three letters has more findings than count. */
    private void crowd() {
        int many = 8 + random.nextInt(12);
        due("term(0,0,0)", x.term(0, 0, 0), y.term(0, 0, 0));
        for (int i = 1; i < many; i++) {
            due("term(5," + (i - 1) + ",0)", x.term(5, i - 1, 0), y.term(5, i - 1, 0));
        }
        for (int i = 0; i < many; i++) {
            due("term(4," + i + ",0)", x.term(4, i, 0), y.term(4, i, 0));
            due("alike(" + many + "," + (many + i) + ")", x.alike(many, many + i), y.alike(many, many + i));
        }
        due("term(6," + many + "," + many + ")", x.term(6, many, many), y.term(6, many, many));
        String[] rules = {"h(f(x),f(y))>h(f(y),x);", "h(f(z),f(x))>z;", "h(f(x),f(y))>f(x);f(x)>g(x);",
            "h(f(z),f(y))>h(z,z);h(f(y),f(y))>g(g(y));", "h(f(x),f(y))>a;g(z)>f(z);"};
        type(rules[random.nextInt(rules.length)]);
        due("reads['" + y.text + "']", x.reads(), y.reads());
    }

    private void step() {
        int kind = random.nextInt(100);
        if (kind < 14) {
            say();
        } else if (kind < 40) {
            change();
        } else if (kind < 44) {
            due("digest()", x.digest(), y.digest());
        } else {
            ask();
        }
    }

    private int pick(int below) {
        return random.nextInt(Math.max(1, below));
    }

    /** Mostly a TERM that is there. */
    private int anyTerm() {
        return random.nextInt(25) == 0 ? random.nextInt(60) - 5 : pick(y.world.terms.size());
    }

    private int anyRule() {
        return random.nextInt(25) == 0 ? random.nextInt(10) - 2 : pick(y.world.rules.size());
    }

    private int anyOf(int most) {
        return random.nextInt(25) == 0 ? random.nextInt(most + 6) - 3 : random.nextInt(most + 1);
    }

    private void change() {
        int t = anyTerm();
        int u = anyTerm();
        int n;
        switch (random.nextInt(12)) {
            case 0, 1, 2:
                n = random.nextInt(20) == 0 ? anyOf(6) : flavour == 1 && random.nextInt(4) > 0 ? 6 : anyOf(6);
                due("term(" + n + "," + t + "," + u + ")", x.term(n, t, u), y.term(n, t, u));
                break;
            case 3:
                due("alike(" + t + "," + u + ")", x.alike(t, u), y.alike(t, u));
                break;
            case 4:
                n = anyRule();
                if (random.nextInt(2) == 0) {
                    due("drop(" + n + ")", x.drop(n), y.drop(n));
                }
                break;
            case 5, 6:
                due("round()", x.round(), y.round());
                tellLast();
                break;
            case 7:
                n = 1 + anyOf(8);
                due("rounds(" + n + ")", x.rounds(n), y.rounds(n));
                tellLast();
                break;
            case 8:
                int what = anyOf(1);
                n = anyOf(what == 0 ? 3 : 9);
                due("sets(" + what + "," + n + ")", x.sets(what, n), y.sets(what, n));
                break;
            case 9, 10:
                for (int i = random.nextInt(random.nextInt(4) == 0 ? 11 : 3); i > 0; i--) {
                    due("back()", x.back(), y.back());
                }
                break;
            default:
                if (random.nextInt(8) == 0) {
                    due("anew()", x.anew(), y.anew());
                }
                break;
        }
    }

    private void tellLast() {
        for (int what = 0; what < 5; what++) {
            due("last(" + what + ")", x.last(what), y.last(what));
        }
    }

    private void ask() {
        int t = anyTerm();
        int u = anyTerm();
        int r = anyRule();
        int n;
        switch (random.nextInt(10)) {
            case 0:
                n = anyOf(4);
                due("of(" + t + "," + n + ")", x.of(t, n), y.of(t, n));
                break;
            case 1:
                due("same(" + t + "," + u + ")", x.same(t, u), y.same(t, u));
                break;
            case 2:
                due("classes()", x.classes(), y.classes());
                break;
            case 3:
                n = anyOf(3);
                due("about(" + t + "," + n + ")", x.about(t, n), y.about(t, n));
                break;
            case 4:
                n = anyOf(4);
                due("rule(" + r + "," + n + ")", x.rule(r, n), y.rule(r, n));
                break;
            case 5:
                int k = random.nextInt(30) == 0 ? random.nextInt(260) - 5 : anyOf(flavour == 3 ? 205 : 8);
                n = anyOf(4);
                due("finding(" + r + "," + k + "," + n + ")", x.finding(r, k, n), y.finding(r, k, n));
                break;
            case 6:
                n = anyOf(4);
                due("last(" + n + ")", x.last(n), y.last(n));
                break;
            case 7:
                due("still()", x.still(), y.still());
                break;
            case 8:
                n = random.nextInt(10) == 0 ? 295 + random.nextInt(8) : anyOf(12) - 1;
                due("writing(" + t + "," + n + ")", x.writing(t, n), y.writing(t, n));
                break;
            default:
                n = anyOf(8);
                due("told(" + n + ")", x.told(n), y.told(n));
                break;
        }
    }

    /** Types a text, whole ones mostly, and reads it. */
    private void say() {
        if (random.nextInt(10) > 0) {
            due("clear()", x.clear(), y.clear());
        }
        StringBuilder text = new StringBuilder();
        for (int i = 1 + random.nextInt(4); i > 0; i--) {
            sentence(text);
        }
        if (random.nextInt(4) == 0) {
            spoil(text);
        }
        if (made + text.length() <= MOST_CALLS - STEP) {
            type(text.toString());
        }
        due("reads['" + y.text + "']", x.reads(), y.reads());
    }

    private void type(String text) {
        for (int i = 0; i < text.length(); i++) {
            int c = text.charAt(i);
            int got = x.type(c);
            int want = y.type(c);
            made++;
            if (got != want) {
                due("type(" + c + ")", got, want);
            }
        }
    }

    private void sentence(StringBuilder text) {
        boolean rulesAreFull = y.world.rules.size() > 5;
        int kind = random.nextInt(rulesAreFull && random.nextInt(9) > 0 ? 6 : 10);
        int depth = 1 + random.nextInt(3);
        if (kind < 4) {
            write(text, depth, "abcd");
        } else if (kind < 6) {
            write(text, depth, "abcd");
            text.append('=');
            write(text, 1 + random.nextInt(2), "abcd");
        } else {
            String letters = random.nextInt(3) == 0 ? "xyzab" : random.nextInt(2) == 0 ? "xyx" : "xyz";
            int from = text.length();
            write(text, depth, letters);
            String used = text.substring(from).replaceAll("[^xyz]", "");
            text.append('>');
            write(text, random.nextInt(3), used.isEmpty() || random.nextInt(12) == 0 ? letters : used + used + "a");
        }
        text.append(';');
    }

    private void write(StringBuilder text, int depth, String leaves) {
        int kind = depth <= 0 ? 9 : random.nextInt(10);
        if (flavour == 1 && kind < 6) {
            kind = 4;
        }
        if (flavour == 2 && kind > 3 && kind < 7) {
            kind = 1;
        }
        if (kind < 4) {
            text.append(kind < 2 ? "f(" : "g(");
            write(text, depth - 1, leaves);
            text.append(')');
        } else if (kind < 7) {
            text.append("h(");
            write(text, depth - 1, leaves);
            text.append(',');
            write(text, depth - 1, leaves);
            text.append(')');
        } else {
            text.append(leaves.charAt(random.nextInt(leaves.length())));
        }
    }

    private void spoil(StringBuilder text) {
        int at = random.nextInt(text.length());
        String any = "abcdefghxyz()=>;,  \u0000\u007f";
        switch (random.nextInt(4)) {
            case 0: text.deleteCharAt(at); break;
            case 1: text.insert(at, any.charAt(random.nextInt(any.length()))); break;
            case 2: text.setCharAt(at, any.charAt(random.nextInt(any.length()))); break;
            default: text.insert(at, ' ').append("  "); break;
        }
    }
}
