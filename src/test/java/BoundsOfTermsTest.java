/** The bounds that promises 1 to 8 name, and those of TERMS: a test for each sentence. */
public final class BoundsOfTermsTest {
    private static final int NONE = TriggerMatches.NONE, BAD = TriggerMatches.BAD;
    private static final int LEAST = Bounds.LEAST, MOST = Bounds.MOST;
    private static final Check CHECK = new Check("BoundsOfTermsTest");
    private static final Bounds BOUNDS = new Bounds(CHECK);

    public static void main(String[] args) {
        newObjectTells();
        newObjectHasNoTerms();
        newObjectHasNoRules();
        newObjectIsByItself();
        termSigns();
        termPartsNotNeeded();
        termOnePart();
        termTwoParts();
        termNumbers();
        termIsThere();
        termJustThese();
        termGenerationZero();
        termLeavesAState();
        termFull();
        termBadAheadOfFull();
        alikeBad();
        alikeNoneFewer();
        alikeAllFewer();
        alikeWhateverFollows();
        alikeNothingElseFollows();
        alikeNoneByThemselves();
        alikeLeavesAState();
        anewOfNone();
        anewOfAll();
        anewLeavesAState();
        ofBad();
        ofParts();
        ofGeneration();
        ofClass();
        ofTheLastTerm();
        sameBad();
        sameAnswers();
        classesFromNoneToAll();
        aboutBad();
        aboutTerms();
        aboutLeastGeneration();
        aboutFewestSignsAtMost();
        aboutFewestSignsOfAnyText();
        aboutParts();
        CHECK.end();
    }

    private static void due(String call, long got, long want) {
        CHECK.due(call, got, want);
    }

    // ---- promise 1

    private static void newObjectTells() {
        CHECK.says("Promise 1", "As told: THE ORDER 0, LIMIT 3 at first, all else none");
        TriggerMatches x = new TriggerMatches();
        long[] want = {0, 0, 0, 0, 0, 0, 0, 3, 0};
        for (int what = 0; what < want.length; what++) {
            due("told(" + what + ")", x.told(what), want[what]);
        }
        CHECK.due("last", Calls.last(x), 0, 0, 0, 0, 0);
        due("still()", x.still(), 1);
        due("clear()", x.clear(), 0);
    }

    private static void newObjectHasNoTerms() {
        CHECK.says("Promise 1", "no TERMS");
        TriggerMatches x = new TriggerMatches();
        BOUNDS.asks(x, "classes()", x::classes, 0);
        BOUNDS.bad(x, "of(0, 0)", () -> x.of(0, 0));
        BOUNDS.bad(x, "same(0, 0)", () -> x.same(0, 0));
        BOUNDS.bad(x, "alike(0, 0)", () -> x.alike(0, 0));
        BOUNDS.bad(x, "about(0, 0)", () -> x.about(0, 0));
        BOUNDS.badWriting(x, "writing(0, NONE)", () -> x.writing(0, NONE));
        due("told(4)", x.told(4), 0);
    }

    private static void newObjectHasNoRules() {
        CHECK.says("Promise 1", "no RULES");
        TriggerMatches x = new TriggerMatches();
        BOUNDS.bad(x, "rule(0, 0)", () -> x.rule(0, 0));
        BOUNDS.bad(x, "finding(0, 0, 0)", () -> x.finding(0, 0, 0));
        BOUNDS.bad(x, "drop(0)", () -> x.drop(0));
        due("told(5)", x.told(5), 0);
        due("round()", x.round(), 0);
        due("rounds(9)", x.rounds(9), 0);
    }

    private static void newObjectIsByItself() {
        CHECK.says("Promise 1", "A new object: what others were told is not in it");
        TriggerMatches x = Calls.with("f(a)=b;f(x)>c;");
        x.sets(0, 3);
        x.sets(1, 9);
        x.round();
        x.told(9);
        TriggerMatches y = new TriggerMatches();
        due("told(4) of another one", y.told(4), 0);
        CHECK.that("digest of another one", y.digest() == new TriggerMatches().digest());
        due("told(4) of this one yet", x.told(4), 4);
    }

    // ---- promise 2

    private static void termSigns() {
        CHECK.says("Promise 2", "a SIGN: a .. d 0 .. 3, f, g 4, 5, h 6. BAD");
        TriggerMatches x = new TriggerMatches();
        BOUNDS.bad(x, "term(-1, 0, 0)", () -> x.term(-1, 0, 0));
        BOUNDS.bad(x, "term(7, 0, 0)", () -> x.term(7, 0, 0));
        for (int sign = 0; sign <= 6; sign++) {
            due("term of SIGN " + sign, x.term(sign, 0, 0), sign);
            due("its SIGN", x.of(sign, 0), sign);
        }
        BOUNDS.bad(x, "term(-1, 0, 0) with TERMS", () -> x.term(-1, 0, 0));
        BOUNDS.bad(x, "term(7, 0, 0) with TERMS", () -> x.term(7, 0, 0));
        BOUNDS.bad(x, "term(LEAST, 0, 0)", () -> x.term(LEAST, 0, 0));
        BOUNDS.bad(x, "term(MOST, 0, 0)", () -> x.term(MOST, 0, 0));
    }

    private static void termPartsNotNeeded() {
        CHECK.says("Promise 2", "PARTS (those that are not needed: any)");
        int[] any = {NONE, 50, LEAST, MOST, 0};
        TriggerMatches x = new TriggerMatches();
        for (int sign = 0; sign <= 3; sign++) {
            for (int part : any) {
                due("term(" + sign + ", " + part + ", ..)", x.term(sign, part, MOST - part), sign);
            }
            CHECK.due("no PARTS", Calls.of(x, sign), sign, NONE, NONE, 0, sign);
        }
        for (int sign = 4; sign <= 5; sign++) {
            for (int part : any) {
                due("term(" + sign + ", 0, " + part + ")", x.term(sign, 0, part), sign);
            }
            CHECK.due("one PART", Calls.of(x, sign), sign, 0, NONE, 0, sign);
        }
        due("none counts as BAD", x.told(0), 0);
        due("told(4)", x.told(4), 6);
    }

    private static void termOnePart() {
        CHECK.says("Promise 2", "f, g of one PART, a TERM. BAD");
        for (int sign = 4; sign <= 5; sign++) {
            int s = sign;
            TriggerMatches x = Calls.with("a;b;");
            BOUNDS.bad(x, "PART -1", () -> x.term(s, -1, 0));
            BOUNDS.bad(x, "PART 2 of 2", () -> x.term(s, 2, 0));
            BOUNDS.bad(x, "PART 50", () -> x.term(s, 50, 0));
            BOUNDS.bad(x, "PART LEAST", () -> x.term(s, LEAST, 0));
            BOUNDS.bad(x, "PART MOST", () -> x.term(s, MOST, 0));
            due("PART 0", x.term(s, 0, 0), 2);
            due("PART 1 and then 2, the last one", x.term(s, 1, 0) * 100 + x.term(s, 2, 0), 304);
            BOUNDS.bad(x, "PART 5 of 5, itself", () -> x.term(s, 5, 0));
        }
    }

    private static void termTwoParts() {
        CHECK.says("Promise 2", "h of two PARTS, TERMS. BAD");
        TriggerMatches x = Calls.with("a;b;");
        BOUNDS.bad(x, "PARTS -1, 0", () -> x.term(6, -1, 0));
        BOUNDS.bad(x, "PARTS 2, 0", () -> x.term(6, 2, 0));
        BOUNDS.bad(x, "PARTS 0, -1", () -> x.term(6, 0, -1));
        BOUNDS.bad(x, "PARTS 0, 2", () -> x.term(6, 0, 2));
        BOUNDS.bad(x, "PARTS 2, 2: once", () -> x.term(6, 2, 2));
        BOUNDS.bad(x, "PARTS LEAST, 0", () -> x.term(6, LEAST, 0));
        BOUNDS.bad(x, "PARTS 0, LEAST", () -> x.term(6, 0, LEAST));
        BOUNDS.bad(x, "PARTS MOST, 1", () -> x.term(6, MOST, 1));
        BOUNDS.bad(x, "PARTS 1, MOST", () -> x.term(6, 1, MOST));
        due("PARTS 0, 1", x.term(6, 0, 1), 2);
        due("PARTS 1, 0 are others", x.term(6, 1, 0), 3);
        due("PARTS 0, 0", x.term(6, 0, 0), 4);
        due("PARTS 4, 4, the last one", x.term(6, 4, 4), 5);
        CHECK.due("h(a,b)", Calls.of(x, 2), 6, 0, 1, 0, 2);
        CHECK.due("h(b,a)", Calls.of(x, 3), 6, 1, 0, 0, 3);
    }

    private static void termNumbers() {
        CHECK.says("Terms", "TERMS 0 .. 49, as they come");
        TriggerMatches x = new TriggerMatches();
        due("a", x.term(0, 0, 0), 0);
        for (int t = 1; t < 50; t++) {
            due("TERM " + t, x.term(5, t - 1, 0), t);
        }
        due("told(4)", x.told(4), 50);
        CHECK.due("the last one", Calls.of(x, 49), 5, 48, NONE, 0, 49);
    }

    private static void termIsThere() {
        CHECK.says("Terms", "no two TERMS have the same SIGN and the same PARTS");
        TriggerMatches x = Calls.with("h(f(a),g(a));");
        // a f(a) g(a) h(f(a),g(a))
        due("a", x.term(0, 0, 0), 0);
        due("f(a)", x.term(4, 0, 0), 1);
        due("g(a)", x.term(5, 0, 0), 2);
        due("h(f(a),g(a))", x.term(6, 1, 2), 3);
        due("told(4)", x.told(4), 4);
    }

    private static void termJustThese() {
        CHECK.says("Terms", "just these, not ALIKE ones");
        TriggerMatches x = Calls.with("a=b;f(a);");
        due("f(b)", x.term(4, 1, 0), 3);
        CHECK.due("it is another TERM in the same CLASS", Calls.of(x, 3), 4, 1, NONE, 0, 2);
        due("classes()", x.classes(), 2);
    }

    /** a f(a) b g(b), g(b) and b of GENERATION 1. */
    private static TriggerMatches generationOne() {
        TriggerMatches x = Calls.with("f(a);f(x)>g(b);");
        x.round();
        return x;
    }

    private static void termGenerationZero() {
        CHECK.says("Promise 2", "of GENERATION 0 (is it there, it has that then)");
        TriggerMatches x = generationOne();
        due("g(b) ahead", x.of(3, 3), 1);
        due("it is there", x.term(5, 2, 0), 3);
        due("g(b) then", x.of(3, 3), 0);
        due("its PART is not told", x.of(2, 3), 1);
        due("one that comes", x.term(4, 2, 0), 4);
        due("has 0, too, whatever its PART has", x.of(4, 3), 0);
    }

    private static void termLeavesAState() {
        CHECK.says("Promise 2", "S");
        TriggerMatches x = generationOne();
        BOUNDS.leaves(x, "a TERM that comes", () -> x.term(3, 0, 0), 4);
        BOUNDS.leaves(x, "a TERM that is there", () -> x.term(3, 0, 0), 4);
        BOUNDS.leaves(x, "a TERM that has GENERATION 0 then", () -> x.term(1, 0, 0), 2);
    }

    private static void termFull() {
        CHECK.says("Promise 2", "FULL: 50");
        TriggerMatches x = Calls.chain(49);
        due("the 50th", x.term(1, 0, 0), 49);
        BOUNDS.full(x, "a 51st without PARTS", () -> x.term(2, 0, 0));
        BOUNDS.full(x, "a 51st of one PART", () -> x.term(4, 48, 0));
        BOUNDS.full(x, "a 51st of two PARTS", () -> x.term(6, 49, 0));
        due("told(4)", x.told(4), 50);
        due("one that is there", x.term(1, 0, 0), 49);
        due("the last f that is there", x.term(4, 47, 0), 48);
        x.back();
        x.back();
        due("the 50th taken back", x.back() * 100 + x.told(4), 549);
        due("there is room again", x.term(3, 0, 0), 49);
    }

    private static void termBadAheadOfFull() {
        CHECK.says("The block behind 2", "Refused .. the first of: BAD, NO, FULL");
        TriggerMatches x = Calls.chain(50);
        BOUNDS.bad(x, "SIGN 7 with no room", () -> x.term(7, 0, 0));
        BOUNDS.bad(x, "PART 50 with no room", () -> x.term(5, 50, 0));
        BOUNDS.bad(x, "second PART -1 with no room", () -> x.term(6, 0, -1));
        BOUNDS.full(x, "all as told with no room", () -> x.term(5, 49, 0));
    }

    // ---- promise 3

    private static void alikeBad() {
        CHECK.says("Promise 3", "Two TERMS. BAD");
        TriggerMatches x = Calls.with("a;b;");
        BOUNDS.bad(x, "alike(-1, 0)", () -> x.alike(-1, 0));
        BOUNDS.bad(x, "alike(2, 0)", () -> x.alike(2, 0));
        BOUNDS.bad(x, "alike(0, -1)", () -> x.alike(0, -1));
        BOUNDS.bad(x, "alike(0, 2)", () -> x.alike(0, 2));
        BOUNDS.bad(x, "alike(2, 2): once", () -> x.alike(2, 2));
        BOUNDS.bad(x, "alike(LEAST, 0)", () -> x.alike(LEAST, 0));
        BOUNDS.bad(x, "alike(0, MOST)", () -> x.alike(0, MOST));
        due("alike(0, 1), the first and the last one", x.alike(0, 1), 1);
    }

    private static void alikeNoneFewer() {
        CHECK.says("Promise 3", "how many CLASSES are fewer then: none");
        TriggerMatches x = Calls.with("a=b;c;");
        BOUNDS.leaves(x, "alike(2, 2)", () -> x.alike(2, 2), 0);
        BOUNDS.leaves(x, "alike(1, 0)", () -> x.alike(1, 0), 0);
        due("classes()", x.classes(), 2);
    }

    private static void alikeAllFewer() {
        CHECK.says("Promise 3", "how many CLASSES are fewer then: all that follows, too");
        TriggerMatches x = Calls.chain(50);
        due("f(a) = a", x.alike(1, 0), 49);
        due("classes()", x.classes(), 1);
        due("the CLASS of the last one", x.of(49, 4), 0);
        x.back();
        due("f^49(a) = a, nothing follows", x.alike(49, 0), 1);
        due("classes()", x.classes(), 49);
        x.back();
        due("f^25(a) = a: f^26(a) = f(a), and so on", x.alike(0, 25), 25);
    }

    /** p9 and q9 become ALIKE, so do f(p9) and f(q9), which are ALIKE p8 and q8, and so on down to those that came first. */
    private static void alikeWhateverFollows() {
        CHECK.says("Terms", "the same SIGN as the other one and PARTS ALIKE each, and whatever follows from that");
        TriggerMatches x = Calls.with("a;b;c;");
        int[] p = new int[9];
        int[] q = new int[9];
        int s = 2;
        for (int i = 0; i < 9; i++) {
            p[i] = x.term(6, 0, s);
            q[i] = x.term(6, 1, s);
            s = x.term(5, s, 0);
        }
        for (int i = 1; i < 9; i++) {
            x.alike(x.term(4, p[i], 0), p[i - 1]);
            x.alike(x.term(4, q[i], 0), q[i - 1]);
        }
        due("told(4)", x.told(4), 46);
        due("classes()", x.classes(), 30);
        due("same(p0, q0)", x.same(p[0], q[0]), 0);
        due("alike(p8, q8)", x.alike(q[8], p[8]), 9);
        for (int i = 0; i < 9; i++) {
            due("same(p" + i + ", q" + i + ")", x.same(p[i], q[i]), 1);
        }
        due("same(a, b)", x.same(0, 1), 0);
        due("same(p0, p1)", x.same(p[0], p[1]), 0);
    }

    private static void alikeNothingElseFollows() {
        CHECK.says("Terms", "the same SIGN as the other one and PARTS ALIKE each: both, and in their places");
        TriggerMatches x = Calls.with("f(a);f(b);g(b);h(a,c);h(b,d);h(c,a);h(c,b);");
        // a f(a) b f(b) g(b) c h(a,c) d h(b,d) h(c,a) h(c,b)
        due("alike(a, b)", x.alike(0, 2), 3);
        due("f(a), f(b)", x.same(1, 3), 1);
        due("f(a), g(b)", x.same(1, 4), 0);
        due("h(a,c), h(b,d): the second PART is not", x.same(6, 8), 0);
        due("h(c,a), h(c,b)", x.same(9, 10), 1);
        due("h(a,c), h(c,a)", x.same(6, 9), 0);
        due("alike(f(a), c) tells nothing of a", x.alike(1, 5), 1);
        due("a, c", x.same(0, 5), 0);
    }

    private static void alikeNoneByThemselves() {
        CHECK.says("Terms", "TERMS are ALIKE, if: none of 50 is, if nothing was told");
        for (int sign = 4; sign <= 5; sign++) {
            TriggerMatches x = Calls.with("a;h(a,a);h(a,h(a,a));h(h(a,a),a);");
            x.term(6, 0, 2);
            x.term(6, 2, 0);
            x.term(6, 1, 1);
            for (int t = 6; t < 49; t++) {
                x.term(sign, t, 0);
            }
            due("told(4)", x.told(4), 50);
            due("classes()", x.classes(), 50);
            due("alike(48, 0): nothing follows, as there is no TERM of this SIGN with a", x.alike(48, 0), 1);
        }
    }

    private static void alikeLeavesAState() {
        CHECK.says("Promise 3", "S");
        TriggerMatches x = Calls.with("f(a);f(b);");
        BOUNDS.leaves(x, "alike(0, 2)", () -> x.alike(0, 2), 2);
        due("same(1, 3)", x.same(1, 3), 1);
    }

    // ---- promise 4

    private static void anewOfNone() {
        CHECK.says("Promise 4", "how many TERMS there were: none. S");
        TriggerMatches x = new TriggerMatches();
        due("anew()", x.anew(), 0);
        due("told(8)", x.told(8), 1);
        BOUNDS.leaves(x, "anew() again", x::anew, 0);
    }

    private static void anewOfAll() {
        CHECK.says("Promise 4", "All TERMS and RULES go: how many TERMS there were");
        TriggerMatches x = Calls.chain(50);
        Calls.say(x, "a>a;a>a;a>a;f(x)>x;g(x)>x;h(x,y)>x;");
        x.alike(0, 49);
        due("anew()", x.anew(), 50);
        due("told(4)", x.told(4), 0);
        due("told(5)", x.told(5), 0);
        due("classes()", x.classes(), 0);
        due("of(0, 0)", x.of(0, 0), BAD);
        due("rule(0, 0)", x.rule(0, 0), BAD);
        for (int t = 0; t < 50; t++) {
            due("room for TERM " + t, x.term(t == 0 ? 2 : 4, t - 1, 0), t);
        }
        due("each in a CLASS of its own", x.classes(), 50);
        due("room for six RULES", x.reads(), 6);
    }

    private static void anewLeavesAState() {
        CHECK.says("Promise 4", "S");
        TriggerMatches x = generationOne();
        BOUNDS.leaves(x, "anew()", x::anew, 4);
        due("told(4)", x.told(4), 0);
    }

    // ---- promise 5

    private static void ofBad() {
        CHECK.says("Promise 5", "Of a TERM: 0 .. 4. BAD");
        TriggerMatches x = Calls.with("f(a);");
        BOUNDS.bad(x, "of(-1, 0)", () -> x.of(-1, 0));
        BOUNDS.bad(x, "of(2, 0)", () -> x.of(2, 0));
        BOUNDS.bad(x, "of(LEAST, 0)", () -> x.of(LEAST, 0));
        BOUNDS.bad(x, "of(MOST, 0)", () -> x.of(MOST, 0));
        BOUNDS.bad(x, "of(0, -1)", () -> x.of(0, -1));
        BOUNDS.bad(x, "of(0, 5)", () -> x.of(0, 5));
        BOUNDS.bad(x, "of(0, LEAST)", () -> x.of(0, LEAST));
        BOUNDS.bad(x, "of(0, MOST)", () -> x.of(0, MOST));
        BOUNDS.bad(x, "of(2, 5): once", () -> x.of(2, 5));
        BOUNDS.asks(x, "of(0, 0)", () -> x.of(0, 0), 0);
        BOUNDS.asks(x, "of(1, 4)", () -> x.of(1, 4), 1);
    }

    private static void ofParts() {
        CHECK.says("Promise 5", "PARTS (1, 2; NONE)");
        TriggerMatches x = Calls.with("h(b,f(a));");
        // b a f(a) h(b,f(a))
        CHECK.due("b", Calls.of(x, 0), 1, NONE, NONE, 0, 0);
        CHECK.due("f(a)", Calls.of(x, 2), 4, 1, NONE, 0, 2);
        CHECK.due("h(b,f(a))", Calls.of(x, 3), 6, 0, 2, 0, 3);
        due("NONE is no refusal", x.told(0), 0);
        x.alike(2, 1);
        x.alike(1, 0);
        CHECK.due("f(a): TERMS, not CLASSES of TERMS", Calls.of(x, 2), 4, 1, NONE, 0, 0);
        CHECK.due("h(b,f(a)): TERMS, not CLASSES of TERMS", Calls.of(x, 3), 6, 0, 2, 0, 3);
    }

    /** By ROUNDS 1 .. 9 g^i(a), f(g^i(a)), h(f(g^i(a)),a) come, each of GENERATION i; the last one is the most. */
    private static TriggerMatches allGenerations() {
        TriggerMatches x = Calls.with("f(a);f(x)>h(f(g(x)),a);");
        x.sets(1, 9);
        x.rounds(9);
        return x;
    }

    private static void ofGeneration() {
        CHECK.says("Terms", "Each has a GENERATION (0 .. 9)");
        TriggerMatches x = allGenerations();
        due("told(4)", x.told(4), 29);
        due("a", x.of(0, 3), 0);
        for (int i = 1; i <= 9; i++) {
            due("g^" + i + "(a)", x.of(3 * i - 1, 3), i);
            due("f(g^" + i + "(a))", x.of(3 * i, 3), i);
        }
        due("one more ROUND", x.round(), 0);
        due("none comes by it", x.told(4), 29);
    }

    private static void ofClass() {
        CHECK.says("Terms", "A CLASS is named by its least TERM");
        TriggerMatches x = Calls.with("a;b;c;d;c=d;d=b;");
        due("a", x.of(0, 4), 0);
        for (int t = 1; t <= 3; t++) {
            due("the CLASS of " + t, x.of(t, 4), 1);
        }
        x.alike(3, 0);
        for (int t = 0; t <= 3; t++) {
            due("the CLASS of " + t + " then", x.of(t, 4), 0);
        }
    }

    private static void ofTheLastTerm() {
        CHECK.says("Terms", "TERMS 0 .. 49: the last one is as good as any");
        TriggerMatches x = Calls.chain(48);
        x.term(1, 0, 0);
        x.term(6, 48, 47);
        CHECK.due("of(49, ..)", Calls.of(x, 49), 6, 48, 47, 0, 49);
        due("same(49, 0)", x.same(49, 0), 0);
        due("about(49, 0)", x.about(49, 0), 1);
        due("about(49, 1)", x.about(49, 1), 0);
        due("about(49, 2)", x.about(49, 2), 50);
        due("about(49, 3)", x.about(49, 3), 0);
        due("about(48, 3)", x.about(48, 3), 1);
        due("writing(49, NONE)", x.writing(49, NONE), 5 + 3 * 47 + 1);
        Calls.say(x, "h(x,y)>x;f(x)>x;");
        CHECK.due("a FINDING at it", Calls.finding(x, 0, 0), 48, 47, NONE, 49, 1);
        due("alike(49, 0)", x.alike(49, 0), 1);
        due("about(49, 2) then", x.about(49, 2), 1);
        due("round(): h(b,f(..)) with b, f(a) with a, and so on", x.round(), 2);
        due("classes()", x.classes(), 1);
    }

    // ---- promises 6 and 7

    private static void sameBad() {
        CHECK.says("Promise 6", "two TERMS. BAD");
        TriggerMatches x = Calls.with("a;b;");
        BOUNDS.bad(x, "same(-1, 0)", () -> x.same(-1, 0));
        BOUNDS.bad(x, "same(2, 0)", () -> x.same(2, 0));
        BOUNDS.bad(x, "same(0, -1)", () -> x.same(0, -1));
        BOUNDS.bad(x, "same(0, 2)", () -> x.same(0, 2));
        BOUNDS.bad(x, "same(2, 2): once, though the same", () -> x.same(2, 2));
        BOUNDS.bad(x, "same(LEAST, LEAST)", () -> x.same(LEAST, LEAST));
        BOUNDS.bad(x, "same(1, MOST)", () -> x.same(1, MOST));
    }

    private static void sameAnswers() {
        CHECK.says("Promise 6", "1, 0");
        TriggerMatches x = Calls.with("a=c;b;");
        BOUNDS.asks(x, "same(0, 1)", () -> x.same(0, 1), 1);
        BOUNDS.asks(x, "same(1, 0)", () -> x.same(1, 0), 1);
        BOUNDS.asks(x, "same(1, 2)", () -> x.same(1, 2), 0);
        BOUNDS.asks(x, "same(2, 2)", () -> x.same(2, 2), 1);
    }

    private static void classesFromNoneToAll() {
        CHECK.says("Promise 7", "How many CLASSES: 0 .. 50");
        TriggerMatches x = Calls.chain(50);
        BOUNDS.asks(x, "classes()", x::classes, 50);
        x.alike(0, 1);
        BOUNDS.asks(x, "classes() of one", x::classes, 1);
        x.anew();
        BOUNDS.asks(x, "classes() of none", x::classes, 0);
    }

    // ---- promise 8

    private static void aboutBad() {
        CHECK.says("Promise 8", "Of the CLASS of a TERM: 0 .. 3. BAD");
        TriggerMatches x = Calls.with("f(a);");
        BOUNDS.bad(x, "about(-1, 0)", () -> x.about(-1, 0));
        BOUNDS.bad(x, "about(2, 0)", () -> x.about(2, 0));
        BOUNDS.bad(x, "about(LEAST, 2)", () -> x.about(LEAST, 2));
        BOUNDS.bad(x, "about(MOST, 2)", () -> x.about(MOST, 2));
        BOUNDS.bad(x, "about(0, -1)", () -> x.about(0, -1));
        BOUNDS.bad(x, "about(0, 4)", () -> x.about(0, 4));
        BOUNDS.bad(x, "about(0, LEAST)", () -> x.about(0, LEAST));
        BOUNDS.bad(x, "about(0, MOST)", () -> x.about(0, MOST));
        BOUNDS.bad(x, "about(2, 4): once", () -> x.about(2, 4));
        for (int what = 0; what <= 3; what++) {
            int w = what;
            BOUNDS.asks(x, "about(0, " + w + ")", () -> x.about(0, w), w == 1 ? 0 : 1);
        }
    }

    private static void aboutTerms() {
        CHECK.says("Promise 8", "TERMS (0): 1 .. 50");
        TriggerMatches x = Calls.chain(50);
        due("each by itself", x.about(49, 0), 1);
        x.alike(49, 0);
        due("two of them", x.about(49, 0), 2);
        due("another one", x.about(1, 0), 1);
        x.alike(1, 0);
        due("all", x.about(49, 0), 50);
    }

    private static void aboutLeastGeneration() {
        CHECK.says("Promise 8", "the least GENERATION (1): 0 .. 9");
        TriggerMatches x = allGenerations();
        // h(f(g^9(a)),a) of GENERATION 9 is alike f(g^8(a)); f(g^9(a)) is by itself
        due("a", x.about(0, 1), 0);
        due("f(g^9(a))", x.about(27, 1), 9);
        due("h(f(g^9(a)),a) has 9", x.of(28, 3), 9);
        due("its CLASS 8", x.about(28, 1), 8);
        x.alike(27, 0);
        due("f(g^9(a)) with a", x.about(27, 1), 0);
        TriggerMatches y = generationOne();
        y.alike(y.term(3, 0, 0), 2);
        due("b, of GENERATION 1, with d, which came later", y.about(2, 1), 0);
        due("b itself", y.of(2, 3), 1);
    }

    /** The TERM of a chain of h(t,t), of 1 more than twice the SIGNS of t, and f(t), of 1 more, with so many SIGNS. */
    private static int termOfSigns(TriggerMatches x, int signs) {
        if (signs == 1) {
            return x.term(0, 0, 0);
        }
        if (signs % 2 == 0) {
            return x.term(4, termOfSigns(x, signs - 1), 0);
        }
        int t = termOfSigns(x, (signs - 1) / 2);
        return x.term(6, t, t);
    }

    private static void aboutFewestSignsAtMost() {
        CHECK.says("Promise 8", "the fewest SIGNS (2; 1000000 at most)");
        TriggerMatches x = new TriggerMatches();
        int t = termOfSigns(x, 999998);
        due("one less than the last one but one", x.about(t, 2), 999998);
        int more = x.term(4, t, 0);
        due("one less than the most", x.about(more, 2), 999999);
        int most = x.term(4, more, 0);
        due("the most", x.about(most, 2), 1000000);
        int over = x.term(4, most, 0);
        due("one more is too much", x.about(over, 2), 1000000);
        due("one more than that", x.about(x.term(5, over, 0), 2), 1000000);
        due("far more", x.about(x.term(6, over, over), 2), 1000000);
        due("h of the most and a", x.about(x.term(6, 0, most), 2), 1000000);
        x.alike(over, 0);
        due("if it is alike a", x.about(over, 2), 1);
        due("f(h of the most) is not", x.about(most, 2), 1000000);
    }

    private static void aboutFewestSignsOfAnyText() {
        CHECK.says("Promise 8", "a TERM's SIGN, and for its PARTS any such texts of their CLASSES");
        TriggerMatches x = Calls.with("h(f(f(a)),g(b));f(f(a))=c;");
        // a f(a) f(f(a)) b g(b) h(..) c
        due("a", x.about(0, 2), 1);
        due("f(a)", x.about(1, 2), 2);
        due("f(f(a)), as c", x.about(2, 2), 1);
        due("h(c,g(b)), which is no TERM", x.about(5, 2), 4);
        x.alike(4, 5);
        due("g(b) for h(f(f(a)),g(b))", x.about(5, 2), 2);
    }

    private static void aboutParts() {
        CHECK.says("Promise 8", "how many TERMS have a PART in it (3): none, each once");
        TriggerMatches x = Calls.with("h(a,a);h(a,b);h(b,a);f(a);g(b);");
        // a h(a,a) b h(a,b) h(b,a) f(a) g(b)
        due("h(a,a) is no PART", x.about(1, 3), 0);
        due("a", x.about(0, 3), 4);
        due("b", x.about(2, 3), 3);
        x.alike(0, 2);
        due("a and b", x.about(2, 3), 5);
        TriggerMatches y = new TriggerMatches();
        y.term(0, 0, 0);
        for (int t = 1; t < 50; t++) {
            y.term(6, 0, t - 1);
        }
        due("all but itself", y.about(0, 3), 49);
        due("the last one", y.about(49, 3), 0);
        y.alike(49, 0);
        due("a with the last one", y.about(49, 3), 49);
        due("the one next to it", y.about(48, 3), 1);
    }
}
