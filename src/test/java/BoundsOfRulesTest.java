/** The bounds that promises 9 to 12 name, and those of RULES and FINDINGS: a test for each sentence. */
public final class BoundsOfRulesTest {
    private static final int NONE = TriggerMatches.NONE;
    private static final int LEAST = Bounds.LEAST, MOST = Bounds.MOST;
    private static final Check CHECK = new Check("BoundsOfRulesTest");
    private static final Bounds BOUNDS = new Bounds(CHECK);

    public static void main(String[] args) {
        rulesAsTheyCome();
        ruleBad();
        ruleLetters();
        ruleSigns();
        ruleFindingsNow();
        ruleNotLate();
        findingBad();
        findingNotSoMany();
        findingLettersNotInLeft();
        findingPlaceAndGeneration();
        findingsByLetters();
        findingsOfNoLetters();
        findingsStandByClasses();
        findingsTwoHundred();
        findingsOneTooMany();
        findingsOneTooManyAhead();
        findingsLateOnesAmongThem();
        dropBad();
        dropThoseBehind();
        dropFindings();
        dropOfSix();
        dropLeavesAState();
        setsBad();
        setsOrder();
        setsLimit();
        setsLeavesNoState();
        CHECK.end();
    }

    private static void due(String call, long got, long want) {
        CHECK.due(call, got, want);
    }

    // ---- rules

    private static void rulesAsTheyCome() {
        CHECK.says("Terms", "RULES 0 .. 5, as they come");
        TriggerMatches x = Calls.with("a>a;f(a)>a;f(f(a))>a;", "f(f(f(a)))>a;f(f(f(f(a))))>a;f(f(f(f(f(a)))))>a;");
        due("told(5)", x.told(5), 6);
        for (int r = 0; r < 6; r++) {
            due("SIGNS in LEFT of RULE " + r, x.rule(r, 1), r + 1);
        }
        BOUNDS.bad(x, "rule(6, 1)", () -> x.rule(6, 1));
        Calls.put(x, "b>b;");
        BOUNDS.asks(x, "a 7th RULE", x::reads, -10 - 1);
        due("two of the same are two", Calls.with("a>b;a>b;").told(5), 2);
    }

    // ---- promise 9

    private static void ruleBad() {
        CHECK.says("Promise 9", "Of RULE r: 0 .. 4. BAD");
        TriggerMatches x = Calls.with("a;a>b;f(x)>x;");
        BOUNDS.bad(x, "rule(-1, 0)", () -> x.rule(-1, 0));
        BOUNDS.bad(x, "rule(2, 0)", () -> x.rule(2, 0));
        BOUNDS.bad(x, "rule(LEAST, 3)", () -> x.rule(LEAST, 3));
        BOUNDS.bad(x, "rule(MOST, 3)", () -> x.rule(MOST, 3));
        BOUNDS.bad(x, "rule(0, -1)", () -> x.rule(0, -1));
        BOUNDS.bad(x, "rule(0, 5)", () -> x.rule(0, 5));
        BOUNDS.bad(x, "rule(0, LEAST)", () -> x.rule(0, LEAST));
        BOUNDS.bad(x, "rule(0, MOST)", () -> x.rule(0, MOST));
        BOUNDS.bad(x, "rule(2, 5): once", () -> x.rule(2, 5));
        int[] want = {0, 1, 1, 1, 1};
        for (int what = 0; what <= 4; what++) {
            int w = what;
            BOUNDS.asks(x, "rule(0, " + w + ")", () -> x.rule(0, w), want[w]);
        }
        due("rule(1, 0), the last one", x.rule(1, 0), 1);
    }

    private static void ruleLetters() {
        CHECK.says("Promise 9", "how many unlike LETTERS in LEFT (0): 0 .. 3");
        TriggerMatches x = Calls.with("a>a;f(z)>a;h(y,y)>a;h(x,z)>a;h(h(x,y),h(y,x))>a;h(z,h(y,x))>a;");
        int[] want = {0, 1, 1, 2, 2, 3};
        for (int r = 0; r < want.length; r++) {
            due("rule(" + r + ", 0)", x.rule(r, 0), want[r]);
        }
    }

    private static void ruleSigns() {
        CHECK.says("Promise 9", "SIGNS in LEFT (1), in RIGHT (2): each as often as it stands, no LETTERS");
        TriggerMatches x = Calls.with("a>b;f(x)>x;h(a,a)>h(a,h(a,a));h(x,h(x,b))>h(x,x);");
        int[][] want = {{1, 1}, {1, 0}, {3, 5}, {3, 1}};
        for (int r = 0; r < want.length; r++) {
            due("rule(" + r + ", 1)", x.rule(r, 1), want[r][0]);
            due("rule(" + r + ", 2)", x.rule(r, 2), want[r][1]);
        }
        // 3 bytes for each f, and x, >, x, ;
        TriggerMatches y = Calls.with("f(".repeat(38) + "x" + ")".repeat(38) + ">x;");
        due("as many as a text has room for, LEFT", y.rule(0, 1), 38);
        TriggerMatches z = Calls.with("a>" + "g(".repeat(38) + "a" + ")".repeat(38) + ";");
        due("as many as a text has room for, RIGHT", z.rule(0, 2), 39);
    }

    private static void ruleFindingsNow() {
        CHECK.says("Promise 9", "FINDINGS now (3)");
        TriggerMatches x = Calls.with("f(x)>x;");
        due("none", x.rule(0, 3), 0);
        Calls.say(x, "f(a);f(b);f(c);");
        due("three", x.rule(0, 3), 3);
        x.alike(0, 2);
        due("two, as a and b are one CLASS", x.rule(0, 3), 2);
        x.back();
        due("three again", x.rule(0, 3), 3);
        x.term(4, 5, 0);
        due("four, by f(f(c))", x.rule(0, 3), 4);
    }

    /** a f(a) g(a) f(g(a)) h(..) and so on: FINDINGS of GENERATIONS 1, 2, 3, .., n + 1 by n ROUNDS. */
    private static TriggerMatches generations(int n) {
        TriggerMatches x = Calls.with("f(a);f(x)>h(f(g(x)),a);");
        x.sets(1, 9);
        x.rounds(n);
        return x;
    }

    private static void ruleNotLate() {
        CHECK.says("Promise 9", "those that are not LATE (4): up to LIMIT");
        TriggerMatches x = generations(9);
        due("rule(0, 3)", x.rule(0, 3), 10);
        for (int limit = 0; limit <= 9; limit++) {
            x.sets(1, limit);
            due("rule(0, 4) by LIMIT " + limit, x.rule(0, 4), limit);
        }
    }

    // ---- promise 10

    private static void findingBad() {
        CHECK.says("Promise 10", "BAD: k below 0, too");
        TriggerMatches x = Calls.with("f(a);f(x)>x;a>b;");
        BOUNDS.bad(x, "finding(-1, 0, 0)", () -> x.finding(-1, 0, 0));
        BOUNDS.bad(x, "finding(2, 0, 0)", () -> x.finding(2, 0, 0));
        BOUNDS.bad(x, "finding(LEAST, 0, 0)", () -> x.finding(LEAST, 0, 0));
        BOUNDS.bad(x, "finding(MOST, 0, 0)", () -> x.finding(MOST, 0, 0));
        BOUNDS.bad(x, "finding(0, -1, 0)", () -> x.finding(0, -1, 0));
        BOUNDS.bad(x, "finding(0, LEAST, 0)", () -> x.finding(0, LEAST, 0));
        BOUNDS.bad(x, "finding(0, 0, -1)", () -> x.finding(0, 0, -1));
        BOUNDS.bad(x, "finding(0, 0, 5)", () -> x.finding(0, 0, 5));
        BOUNDS.bad(x, "finding(0, 0, LEAST)", () -> x.finding(0, 0, LEAST));
        BOUNDS.bad(x, "finding(0, 0, MOST)", () -> x.finding(0, 0, MOST));
        BOUNDS.bad(x, "finding(0, 1, 5), though not so many", () -> x.finding(0, 1, 5));
        BOUNDS.bad(x, "finding(2, -1, 5): once", () -> x.finding(2, -1, 5));
        CHECK.due("finding(0, 0, ..)", Calls.finding(x, 0, 0), 0, NONE, NONE, 1, 1);
        CHECK.due("finding(1, 0, ..), the last RULE", Calls.finding(x, 1, 0), NONE, NONE, NONE, 0, 1);
    }

    private static void findingNotSoMany() {
        CHECK.says("Promise 10", "NONE: not so many");
        TriggerMatches x = Calls.with("f(a);f(b);f(x)>x;c>c;");
        for (int what = 0; what <= 4; what++) {
            int w = what;
            BOUNDS.asks(x, "finding(0, 2, " + w + ") of two", () -> x.finding(0, 2, w), NONE);
            BOUNDS.asks(x, "finding(1, 0, " + w + ") of none", () -> x.finding(1, 0, w), NONE);
        }
        BOUNDS.asks(x, "finding(0, MOST, 3)", () -> x.finding(0, MOST, 3), NONE);
        BOUNDS.asks(x, "finding(0, 1, 3), the last one", () -> x.finding(0, 1, 3), 3);
    }

    private static void findingLettersNotInLeft() {
        CHECK.says("Promise 10", "CLASSES of x, y, z (0, 1, 2; NONE: not in LEFT)");
        TriggerMatches x = Calls.with("h(a,b);h(x,a)>a;h(a,x)>a;h(a,y)>a;h(z,b)>a;h(z,y)>a;h(a,b)>a;");
        CHECK.due("h(x,a): none", Calls.finding(x, 0, 0), NONE, NONE, NONE, NONE, NONE);
        CHECK.due("h(a,x)", Calls.finding(x, 1, 0), 1, NONE, NONE, 2, 1);
        CHECK.due("h(a,y)", Calls.finding(x, 2, 0), NONE, 1, NONE, 2, 1);
        CHECK.due("h(z,b)", Calls.finding(x, 3, 0), NONE, NONE, 0, 2, 1);
        CHECK.due("h(z,y)", Calls.finding(x, 4, 0), NONE, 1, 0, 2, 1);
        CHECK.due("h(a,b)", Calls.finding(x, 5, 0), NONE, NONE, NONE, 2, 1);
    }

    private static void findingPlaceAndGeneration() {
        CHECK.says("Promise 10", "PLACE (3), GENERATION (4): up to 10, which is LATE always");
        TriggerMatches x = generations(9);
        for (int k = 0; k <= 9; k++) {
            // f(g^k(a)) is TERM 3k, but f(a) is 1
            due("PLACE of " + k, x.finding(0, k, 3), k == 0 ? 1 : 3 * k);
            due("GENERATION of " + k, x.finding(0, k, 4), k + 1);
        }
        due("LIMIT 10 can not be", x.sets(1, 10), TriggerMatches.BAD);
        due("still()", x.still(), 1);
    }

    // ---- findings

    private static void findingsByLetters() {
        CHECK.says("Terms", "FINDINGS come by x's CLASS, then y's, then z's");
        TriggerMatches x = Calls.with("a;b;h(b,h(b,a));h(a,h(b,a));h(b,h(a,b));h(a,h(a,b));h(z,h(y,x))>x;");
        // a b h(b,a) h(b,h(b,a)) h(a,h(b,a)) h(a,b) h(b,h(a,b)) h(a,h(a,b))
        due("rule(0, 3)", x.rule(0, 3), 4);
        CHECK.due("0", Calls.finding(x, 0, 0), 0, 1, 0, 4, 1);
        CHECK.due("1", Calls.finding(x, 0, 1), 0, 1, 1, 3, 1);
        CHECK.due("2", Calls.finding(x, 0, 2), 1, 0, 0, 7, 1);
        CHECK.due("3", Calls.finding(x, 0, 3), 1, 0, 1, 6, 1);
        TriggerMatches y = Calls.with("a;b;h(b,a);h(a,b);h(a,a);h(y,z)>y;");
        // a b h(b,a) h(a,b) h(a,a)
        CHECK.due("y, then z: 0", Calls.finding(y, 0, 0), NONE, 0, 0, 4, 1);
        CHECK.due("y, then z: 1", Calls.finding(y, 0, 1), NONE, 0, 1, 3, 1);
        CHECK.due("y, then z: 2", Calls.finding(y, 0, 2), NONE, 1, 0, 2, 1);
    }

    private static void findingsOfNoLetters() {
        CHECK.says("Terms", "those of LETTERS that are not in LEFT count nowhere");
        TriggerMatches x = Calls.with("f(a);b;c;d;f(a)>b;f(z)>b;");
        due("one FINDING without LETTERS, not one for each CLASS", x.rule(0, 3), 1);
        due("one FINDING with one LETTER", x.rule(1, 3), 1);
        TriggerMatches y = Calls.with("b;f(a)>b;");
        due("none, if LEFT does not stand", y.rule(0, 3), 0);
    }

    private static void findingsStandByClasses() {
        CHECK.says("Terms", "for each part of LEFT there is a TERM of its SIGN the PARTS of which are in the CLASSES");
        TriggerMatches x = Calls.with("f(b);g(a);f(g(a))>c;f(g(x))>c;");
        // b f(b) a g(a)
        due("f(g(a)) does not stand", x.rule(0, 3), 0);
        due("nor with x", x.rule(1, 3), 0);
        x.alike(0, 3);
        CHECK.due("f(b) stands for it, if b is alike g(a)", Calls.finding(x, 0, 0), NONE, NONE, NONE, 1, 1);
        CHECK.due("with x, too", Calls.finding(x, 1, 0), 2, NONE, NONE, 1, 1);
        TriggerMatches y = Calls.with("h(a,b);h(x,x)>c;");
        due("one LETTER has one CLASS", y.rule(0, 3), 0);
        y.alike(0, 1);
        due("a and b alike", y.rule(0, 3), 1);
        TriggerMatches z = Calls.with("h(a,b);h(b,a);h(x,x)>c;");
        due("one LETTER has one CLASS, though each can stand in either place", z.rule(0, 3), 0);
        TriggerMatches w = Calls.with("h(a,a);h(x,y)>c;");
        CHECK.due("unlike LETTERS may have the same CLASS", Calls.finding(w, 0, 0), 0, 0, NONE, 1, 1);
    }

    private static final int[] FIVE = {0, 2, 4, 6, 8};
    private static final int[] EIGHT = {0, 2, 4, 6, 8, 15, 17, 19};

    /** f's of five CLASSES are alike and g's of eight: LEFT stands 5 * 5 * 8 times, at h(f(a),h(f(a),g(a))), TERM 22. */
    private static TriggerMatches crowd() {
        return Calls.with("f(a)=f(b);f(b)=f(c);f(c)=f(d);f(d)=f(h(a,a));g(a)=g(b);g(a)=g(c);g(a)=g(d);",
                "g(a)=g(h(a,a));g(a)=g(h(a,b));g(a)=g(h(a,c));g(a)=g(h(a,d));h(f(a),h(f(a),g(a)));");
    }

    private static final String LEFT = "h(f(x),h(f(y),g(z)))";
    /** One more FINDING by itself. */
    private static final String ALONE = "h(f(h(b,b)),h(f(h(b,b)),g(h(b,b))));";

    private static void findingsTwoHundred() {
        CHECK.says("Terms", "the first 200 of a RULE count: 200 stand");
        TriggerMatches x = crowd();
        Calls.say(x, LEFT + ">d;");
        due("rule(0, 3)", x.rule(0, 3), 200);
        due("rule(0, 4)", x.rule(0, 4), 200);
        for (int k = 0; k < 200; k += k < 40 ? 7 : 53) {
            CHECK.due("finding " + k, Calls.finding(x, 0, k), FIVE[k / 40], FIVE[k % 40 / 8], EIGHT[k % 8], 22, 1);
        }
        CHECK.due("finding 199", Calls.finding(x, 0, 199), 8, 8, 19, 22, 1);
        BOUNDS.asks(x, "finding 200", () -> x.finding(0, 200, 3), NONE);
        due("round()", x.round(), 1);
        CHECK.due("last", Calls.last(x), 200, 0, 0, 0, 1);
    }

    private static void findingsOneTooMany() {
        CHECK.says("Terms", "the first 200 of a RULE count, others are none");
        TriggerMatches x = crowd();
        Calls.say(x, ALONE + LEFT + ">c;");
        due("rule(0, 3)", x.rule(0, 3), 200);
        CHECK.due("finding 199", Calls.finding(x, 0, 199), 8, 8, 19, 22, 1);
        CHECK.due("finding 200", Calls.finding(x, 0, 200), NONE, NONE, NONE, NONE, NONE);
        due("round()", x.round(), 1);
        CHECK.due("last", Calls.last(x), 200, 0, 0, 0, 1);
        due("the 201st was not DONE", x.same(27, 4), 0);
        due("still(), though the 201st would change", x.still(), 1);
        x.drop(0);
        Calls.say(x, "h(f(h(b,b)),h(f(y),g(z)))>c;");
        due("it does stand, by itself", x.rule(0, 3), 1);
    }

    private static void findingsOneTooManyAhead() {
        CHECK.says("Terms", "the first 200 of a RULE count: by CLASSES, not by TERMS that came first");
        TriggerMatches x = Calls.with(ALONE);
        // b h(b,b) f(h(b,b)) g(h(b,b)) h(f,g) h(f,h): six ahead of all others
        Calls.say(x, "f(a)=f(b);f(b)=f(c);f(c)=f(d);f(d)=f(h(a,a));g(a)=g(b);g(a)=g(c);g(a)=g(d);");
        Calls.say(x, "g(a)=g(h(a,a));g(a)=g(h(a,b));g(a)=g(h(a,c));g(a)=g(h(a,d));h(f(a),h(f(a),g(a)));");
        Calls.say(x, LEFT + ">c;");
        due("rule(0, 3)", x.rule(0, 3), 200);
        // b is the least CLASS, then h(b,b): 40 FINDINGS with b for x, then the one by itself
        CHECK.due("the one by itself", Calls.finding(x, 0, 40), 1, 1, 1, 5, 1);
        CHECK.due("finding 200", Calls.finding(x, 0, 200), NONE, NONE, NONE, NONE, NONE);
        int last = x.finding(0, 199, 2);
        due("the last one is the last but one of all", last, x.finding(0, 38, 2));
    }

    private static void findingsLateOnesAmongThem() {
        CHECK.says("Terms", "the first 200 of a RULE count: LATE ones, too");
        TriggerMatches x = Calls.with("f(a)=f(b);f(b)=f(c);f(c)=f(d);f(d)=f(h(a,a));g(a)=g(b);g(a)=g(c);g(a)=g(d);",
                "g(a)=g(h(a,a));g(a)=g(h(a,b));g(a)=g(h(a,c));g(a)=g(h(a,d));d>g(h(f(a),h(f(a),g(a))));");
        x.round();
        x.drop(0);
        Calls.say(x, ALONE + LEFT + ">c;");
        x.sets(1, 1);
        due("rule(0, 3)", x.rule(0, 3), 200);
        due("rule(0, 4): the PLACE of all is of GENERATION 1", x.rule(0, 4), 0);
        due("GENERATION", x.finding(0, 199, 4), 2);
        due("still()", x.still(), 1);
        due("round()", x.round(), 0);
        CHECK.due("last", Calls.last(x), 0, 200, 0, 0, 0);
    }

    // ---- promise 11

    private static void dropBad() {
        CHECK.says("Promise 11", "RULE r. BAD");
        TriggerMatches x = Calls.with("a>a;f(x)>x;");
        BOUNDS.bad(x, "drop(-1)", () -> x.drop(-1));
        BOUNDS.bad(x, "drop(2)", () -> x.drop(2));
        BOUNDS.bad(x, "drop(6)", () -> x.drop(6));
        BOUNDS.bad(x, "drop(LEAST)", () -> x.drop(LEAST));
        BOUNDS.bad(x, "drop(MOST)", () -> x.drop(MOST));
        due("drop(1), the last one", x.drop(1), 1);
        BOUNDS.bad(x, "drop(1) again", () -> x.drop(1));
        due("drop(0), the only one", x.drop(0), 0);
        BOUNDS.bad(x, "drop(0) of none", () -> x.drop(0));
    }

    private static final String SIX = "a>a;f(a)>a;f(f(a))>a;f(f(f(a)))>a;f(f(f(f(a))))>a;f(f(f(f(f(a)))))>a;";

    private static void dropThoseBehind() {
        CHECK.says("Promise 11", "RULE r goes (those behind it are one nearer)");
        for (int gone = 0; gone < 6; gone++) {
            TriggerMatches x = Calls.with(SIX);
            due("drop(" + gone + ")", x.drop(gone), 5);
            for (int r = 0; r < 5; r++) {
                due("RULE " + r + " behind drop(" + gone + ")", x.rule(r, 1), r < gone ? r + 1 : r + 2);
            }
            due("rule(5, 1)", x.rule(5, 1), TriggerMatches.BAD);
        }
    }

    private static void dropFindings() {
        CHECK.says("Promise 11", "those behind it are one nearer: so are their FINDINGS");
        TriggerMatches x = Calls.with("f(x)>x;g(x)>x;g(g(a));");
        due("rule(0, 3) of f(x)", x.rule(0, 3), 0);
        due("drop(0)", x.drop(0), 1);
        due("rule(0, 3) of g(x)", x.rule(0, 3), 2);
        due("back()", x.back(), 1);
        due("rule(0, 3) of f(x) again", x.rule(0, 3), 0);
        x.finding(0, 0, 3);
        due("drop(0) again", x.drop(0), 1);
        CHECK.due("finding(0, 1, ..)", Calls.finding(x, 0, 1), 1, NONE, NONE, 2, 1);
        due("round(): by g(x), not by f(x)", x.round(), 1);
    }

    private static void dropOfSix() {
        CHECK.says("Promise 11", "how many are left: 5 .. 0, and there is room again");
        TriggerMatches x = Calls.with(SIX);
        for (int left = 5; left >= 0; left--) {
            due("drop(0)", x.drop(0), left);
            due("told(5)", x.told(5), left);
        }
        due("six come again", x.reads(), 6);
        due("told(5)", x.told(5), 6);
        x.drop(3);
        due("one more comes", Calls.say(x, "h(x,y)>x;"), 1);
        due("behind the others", x.rule(5, 0), 2);
    }

    private static void dropLeavesAState() {
        CHECK.says("Promise 11", "S");
        TriggerMatches x = Calls.with("f(a);" + SIX);
        BOUNDS.leaves(x, "drop(0)", () -> x.drop(0), 5);
        BOUNDS.leaves(x, "drop(4)", () -> x.drop(4), 4);
    }

    // ---- promise 12

    private static void setsBad() {
        CHECK.says("Promise 12", "THE ORDER (what 0; 0 .. 3), LIMIT (1; 0 .. 9). BAD");
        TriggerMatches x = new TriggerMatches();
        x.sets(0, 2);
        x.sets(1, 5);
        BOUNDS.bad(x, "sets(-1, 0)", () -> x.sets(-1, 0));
        BOUNDS.bad(x, "sets(2, 0)", () -> x.sets(2, 0));
        BOUNDS.bad(x, "sets(LEAST, 0)", () -> x.sets(LEAST, 0));
        BOUNDS.bad(x, "sets(MOST, 0)", () -> x.sets(MOST, 0));
        BOUNDS.bad(x, "sets(0, -1)", () -> x.sets(0, -1));
        BOUNDS.bad(x, "sets(0, 4)", () -> x.sets(0, 4));
        BOUNDS.bad(x, "sets(0, 9)", () -> x.sets(0, 9));
        BOUNDS.bad(x, "sets(0, LEAST)", () -> x.sets(0, LEAST));
        BOUNDS.bad(x, "sets(0, MOST)", () -> x.sets(0, MOST));
        BOUNDS.bad(x, "sets(1, -1)", () -> x.sets(1, -1));
        BOUNDS.bad(x, "sets(1, 10)", () -> x.sets(1, 10));
        BOUNDS.bad(x, "sets(1, LEAST)", () -> x.sets(1, LEAST));
        BOUNDS.bad(x, "sets(1, MOST)", () -> x.sets(1, MOST));
        BOUNDS.bad(x, "sets(2, 10): once", () -> x.sets(2, 10));
        due("THE ORDER yet", x.told(6), 2);
        due("LIMIT yet", x.told(7), 5);
    }

    private static void setsOrder() {
        CHECK.says("Promise 12", "THE ORDER becomes v: what it was; 0 at first");
        TriggerMatches x = new TriggerMatches();
        int was = 0;
        for (int v : new int[] {3, 0, 1, 2, 2, 0}) {
            due("sets(0, " + v + ")", x.sets(0, v), was);
            due("told(6)", x.told(6), v);
            was = v;
        }
        due("LIMIT is another thing", x.told(7), 3);
    }

    private static void setsLimit() {
        CHECK.says("Promise 12", "LIMIT becomes v: what it was; 3 at first");
        TriggerMatches x = new TriggerMatches();
        int was = 3;
        for (int v : new int[] {9, 0, 1, 8, 3, 3}) {
            due("sets(1, " + v + ")", x.sets(1, v), was);
            due("told(7)", x.told(7), v);
            was = v;
        }
        due("THE ORDER is another thing", x.told(6), 0);
    }

    private static void setsLeavesNoState() {
        CHECK.says("Promise 12", "no S: it leaves no STATE, and is not taken back");
        TriggerMatches x = Calls.with("a;");
        x.sets(0, 3);
        x.sets(1, 7);
        due("told(8)", x.told(8), 1);
        due("back()", x.back(), 0);
        due("THE ORDER", x.told(6), 3);
        due("LIMIT", x.told(7), 7);
        x.anew();
        due("THE ORDER behind anew()", x.told(6), 3);
        due("LIMIT behind anew()", x.told(7), 7);
    }
}
