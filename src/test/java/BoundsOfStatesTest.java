import java.util.function.IntSupplier;

/** The bounds that promises 21 to 23 and the block on STATES and refusals name: a test for each sentence. */
public final class BoundsOfStatesTest {
    private static final int NONE = TriggerMatches.NONE, BAD = TriggerMatches.BAD;
    private static final int LEAST = Bounds.LEAST, MOST = Bounds.MOST;
    private static final Check CHECK = new Check("BoundsOfStatesTest");
    private static final Bounds BOUNDS = new Bounds(CHECK);

    public static void main(String[] args) {
        backNone();
        backHowMany();
        backIsNoStep();
        statesEightAtMost();
        statesOlderOnesLost();
        statesRoundAndRound();
        statesBehindBack();
        statesByCallsToldS();
        statesByOthersNone();
        statesOfTermsAndGenerations();
        statesOfClasses();
        statesOfRules();
        statesOfAllTermsAndRules();
        statesOfTheLastRule();
        statesOfNothingElse();
        statesFullAndRefused();
        statesFullAndFault();
        refusedOnce();
        refusedEach();
        toldBad();
        toldHowOften();
        callsUpTo512();
        toldBytes();
        toldTermsAndRules();
        toldStates();
        digestOfNone();
        digestOfSome();
        digestWrapsAround();
        digestChangesNothing();
        CHECK.end();
    }

    private static void due(String call, long got, long want) {
        CHECK.due(call, got, want);
    }

    // ---- promise 21

    private static void backNone() {
        CHECK.says("Promise 21", "NO: none");
        TriggerMatches x = new TriggerMatches();
        BOUNDS.no(x, "back() of a new object", x::back);
        x.term(0, 0, 0);
        due("back()", x.back(), 0);
        BOUNDS.no(x, "back() behind the last one", x::back);
        due("told(1)", x.told(1), 2);
        due("told(4)", x.told(4), 0);
    }

    private static void backHowMany() {
        CHECK.says("Promise 21", "A STATE back: how many can be yet");
        TriggerMatches x = Calls.chain(5);
        for (int left = 4; left >= 0; left--) {
            due("back()", x.back(), left);
            due("told(8)", x.told(8), left);
            due("told(4)", x.told(4), left);
        }
    }

    private static void backIsNoStep() {
        CHECK.says("Promise 21", "no S: what was taken back does not come again by back()");
        TriggerMatches x = Calls.chain(3);
        due("back()", x.back(), 2);
        due("told(4)", x.told(4), 2);
        due("back() again", x.back(), 1);
        due("told(4) again", x.told(4), 1);
    }

    // ---- STATES

    private static void statesEightAtMost() {
        CHECK.says("The block behind 2", "STATES: 8 at most");
        TriggerMatches x = new TriggerMatches();
        x.type(' ');
        for (int n = 1; n <= 12; n++) {
            x.term(n == 1 ? 0 : 4, n - 2, 0);
            due("told(8) behind " + n, x.told(8), Math.min(8, n));
        }
    }

    private static void statesOlderOnesLost() {
        CHECK.says("The block behind 2", "older ones lost");
        for (int calls = 7; calls <= 20; calls++) {
            TriggerMatches x = Calls.chain(calls);
            int states = Math.min(8, calls);
            for (int left = states - 1; left >= 0; left--) {
                due("back() behind " + calls, x.back(), left);
            }
            due("told(4) as of the oldest one", x.told(4), calls - states);
            BOUNDS.no(x, "back() to one that is lost", x::back);
        }
    }

    private static void statesRoundAndRound() {
        CHECK.says("The block behind 2", "each call leaves one .. as ahead of it, time and again");
        TriggerMatches x = new TriggerMatches();
        int terms = 0;
        for (int turn = 0; turn < 8; turn++) {
            for (int i = 0; i < 5; i++) {
                x.term(terms == 0 ? 0 : 5, terms - 1, 0);
                terms++;
            }
            for (int i = 0; i < 3; i++) {
                x.back();
                terms--;
                due("told(4) in turn " + turn, x.told(4), terms);
            }
        }
        due("told(8)", x.told(8), 5);
        for (int left = 4; left >= 0; left--) {
            due("back()", x.back(), left);
            terms--;
            due("told(4)", x.told(4), terms);
        }
        due("back() of none", x.back(), TriggerMatches.NO);
    }

    private static void statesBehindBack() {
        CHECK.says("The block behind 2", "a STATE comes where one was taken back");
        TriggerMatches x = Calls.with("a;", "b;", "c;");
        x.back();
        x.back();
        due("told(8)", x.told(8), 1);
        due("d comes where b was", Calls.say(x, "d;"), 1);
        due("its SIGN", x.of(1, 0), 3);
        due("back()", x.back(), 1);
        due("a alone", x.told(4), 1);
        due("back() again", x.back(), 0);
        due("none", x.told(4), 0);
    }

    private static void statesByCallsToldS() {
        CHECK.says("The block behind 2", "each call told S leaves one");
        TriggerMatches x = Calls.with("f(a);f(x)>b;");
        BOUNDS.leaves(x, "term(3, 0, 0)", () -> x.term(3, 0, 0), 2);
        BOUNDS.leaves(x, "alike(0, 2)", () -> x.alike(0, 2), 1);
        BOUNDS.leaves(x, "round()", x::round, 1);
        BOUNDS.leaves(x, "rounds(2)", () -> x.rounds(2), 0);
        BOUNDS.leaves(x, "drop(0)", () -> x.drop(0), 0);
        BOUNDS.leaves(x, "reads()", x::reads, 2);
        BOUNDS.leaves(x, "anew()", x::anew, 4);
        due("told(8)", x.told(8), 8);
    }

    private static void statesByOthersNone() {
        CHECK.says("The block behind 2", "each call told S leaves one: others none");
        TriggerMatches x = Calls.with("f(a);f(x)>b;");
        BOUNDS.asks(x, "of", () -> x.of(1, 4), 1);
        BOUNDS.asks(x, "same", () -> x.same(0, 1), 0);
        BOUNDS.asks(x, "classes", x::classes, 2);
        BOUNDS.asks(x, "about", () -> x.about(1, 2), 2);
        BOUNDS.asks(x, "rule", () -> x.rule(0, 3), 1);
        BOUNDS.asks(x, "finding", () -> x.finding(0, 0, 3), 1);
        BOUNDS.asks(x, "last", () -> x.last(0), 0);
        BOUNDS.asks(x, "still", x::still, 0);
        BOUNDS.asks(x, "writing", () -> x.writing(1, NONE), 4);
        BOUNDS.asks(x, "told", () -> x.told(8), 1);
        x.sets(0, 1);
        x.sets(1, 4);
        x.type('!');
        x.clear();
        x.digest();
        due("told(8)", x.told(8), 1);
        due("back()", x.back(), 0);
        due("told(4)", x.told(4), 0);
    }

    private static void statesOfTermsAndGenerations() {
        CHECK.says("The block behind 2", "TERMS .. as ahead of it: what they are made of and GENERATIONS, too");
        TriggerMatches x = Calls.with("h(a,b);h(x,y)>g(c);");
        x.round();
        // a b h(a,b) c g(c), the last two of GENERATION 1
        x.term(2, 0, 0);
        due("c then", x.of(3, 3), 0);
        x.anew();
        Calls.say(x, "d;h(d,d);f(d);g(h(d,d));");
        x.back();
        x.back();
        x.back();
        CHECK.due("a", Calls.of(x, 0), 0, NONE, NONE, 0, 0);
        CHECK.due("b", Calls.of(x, 1), 1, NONE, NONE, 0, 1);
        CHECK.due("h(a,b)", Calls.of(x, 2), 6, 0, 1, 0, 2);
        CHECK.due("c", Calls.of(x, 3), 2, NONE, NONE, 1, 3);
        CHECK.due("g(c)", Calls.of(x, 4), 5, 3, NONE, 1, 2);
        due("told(4)", x.told(4), 5);
        due("what was taken back is not there", x.term(3, 0, 0), 5);
    }

    private static void statesOfClasses() {
        CHECK.says("The block behind 2", "CLASSES .. as ahead of it");
        TriggerMatches x = Calls.with("f(a);f(b);f(c);");
        x.alike(0, 2);
        x.alike(2, 4);
        due("classes()", x.classes(), 2);
        x.back();
        due("classes() behind back()", x.classes(), 4);
        due("f(a) and f(b)", x.same(1, 3), 1);
        due("f(a) and f(c)", x.same(1, 5), 0);
        x.back();
        due("classes() behind back() again", x.classes(), 6);
        due("f(a) and f(b) again", x.same(1, 3), 0);
        due("alike(1, 5) does not know of the others", x.alike(1, 5), 1);
    }

    private static void statesOfRules() {
        CHECK.says("The block behind 2", "RULES as ahead of it");
        TriggerMatches x = Calls.with("f(f(a));f(x)>x;h(x,y)>a;g(g(z))>b;");
        x.drop(0);
        Calls.say(x, "f(f(x))>c;");
        due("f(f(x)) is the last one", x.rule(2, 1), 2);
        due("it has a FINDING", x.rule(2, 3), 1);
        x.back();
        due("told(5)", x.told(5), 2);
        x.back();
        due("told(5) again", x.told(5), 3);
        due("f(x) is the first one", x.rule(0, 1), 1);
        due("with two FINDINGS", x.rule(0, 3), 2);
        due("h(x,y) is the next", x.rule(1, 0), 2);
        due("g(g(z)) is the last", x.rule(2, 1), 2);
        due("with none", x.rule(2, 3), 0);
        due("round() by f(x) > x", x.round(), 1);
        due("a, f(a) and f(f(a)) are one", x.classes(), 1);
    }

    /** 49 TERMS of the signs that are told, by f and h. */
    private static void fill(TriggerMatches x, char a, char b) {
        Calls.say(x, ("f(".repeat(36) + "A" + ")".repeat(36) + ";B;").replace('A', a).replace('B', b));
        Calls.say(x, "f(f(f(f(f(h(A,B))))));h(B,A)=B;f(h(B,A));h(B,B);f(h(B,B));g(A);".replace('A', a).replace('B', b));
    }

    private static void statesOfAllTermsAndRules() {
        CHECK.says("The block behind 2", "TERMS, CLASSES, RULES as ahead of it: all 50, all 6");
        TriggerMatches x = new TriggerMatches();
        fill(x, 'a', 'b');
        Calls.say(x, "a>h(f(a),b);a>a;f(x)>a;g(x)>a;g(g(x))>b;h(x,h(y,z))>g(z);");
        x.sets(0, 3);
        x.round();
        due("told(4)", x.told(4), 50);
        CHECK.due("the last TERM", Calls.of(x, 49), 6, 1, 37, 1, 0);
        x.clear();
        long ahead = x.digest();
        x.anew();
        fill(x, 'd', 'c');
        due("another one is the last TERM", x.term(5, 5, 0), 49);
        CHECK.due("it", Calls.of(x, 49), 5, 5, NONE, 0, 49);
        for (int left = 7; left >= 4; left--) {
            due("back()", x.back(), left);
        }
        x.clear();
        CHECK.that("TERMS are as ahead, CLASSES, and RULES as far as the digest tells", x.digest() == ahead);
        CHECK.due("the last TERM again", Calls.of(x, 49), 6, 1, 37, 1, 0);
    }

    private static void statesOfTheLastRule() {
        CHECK.says("The block behind 2", "RULES as ahead of it: the last one, too");
        TriggerMatches x = Calls.with("a>a;b>b;c>c;f(x)>x;g(x)>x;h(x,h(y,z))>g(z);");
        x.anew();
        Calls.say(x, "a>a;".repeat(6));
        due("the last one of the others", x.rule(5, 0), 0);
        x.back();
        x.back();
        due("told(5)", x.told(5), 6);
        due("LETTERS of the last RULE", x.rule(5, 0), 3);
        due("SIGNS in LEFT of the last RULE", x.rule(5, 1), 2);
        due("SIGNS in RIGHT of the last RULE", x.rule(5, 2), 1);
        due("SIGNS in LEFT of the first RULE", x.rule(0, 1), 1);
    }

    private static void statesOfNothingElse() {
        CHECK.says("The block behind 2", "TERMS, CLASSES, RULES: nothing else is taken back");
        TriggerMatches x = Calls.with("a;a>b;");
        x.round();
        x.sets(0, 3);
        x.sets(1, 9);
        x.of(9, 0);
        Calls.put(x, "c;d;");
        x.back();
        x.back();
        x.back();
        long[] want = {1, 1, 0, 4, 0, 0, 3, 9, 0};
        for (int what = 0; what < want.length; what++) {
            due("told(" + what + ")", x.told(what), want[what]);
        }
        CHECK.due("last", Calls.last(x), 1, 0, 0, 1, 0);
        due("reads() of the TEXT as it is", x.reads(), 2);
        due("c", x.of(0, 0), 2);
    }

    private static void statesFullAndRefused() {
        CHECK.says("The block behind 2", "Refused, changing nothing: none of 8 STATES is lost by it");
        TriggerMatches x = Calls.chain(50);
        x.term(1, 0, 0);
        x.term(7, 0, 0);
        x.term(4, 50, 0);
        x.alike(0, 50);
        x.drop(0);
        x.rounds(0);
        x.sets(2, 0);
        CHECK.due("told(0) .. told(2)", Calls.refusals(x), 6, 0, 1);
        for (int left = 7; left >= 0; left--) {
            due("back()", x.back(), left);
            due("told(4)", x.told(4), 42 + left);
        }
    }

    private static void statesFullAndFault() {
        CHECK.says("The block behind 2", "By a FAULT nothing counts: none of 8 STATES is lost by it");
        TriggerMatches x = Calls.chain(20);
        for (String text : new String[] {"", "b;c;d;!", "a=f(a);x;", "f(x)>x;f(x)>y;"}) {
            Calls.say(x, text);
            due("told(8) behind '" + text + "'", x.told(8), 8);
        }
        for (int left = 7; left >= 0; left--) {
            due("back()", x.back(), left);
            due("told(4)", x.told(4), 12 + left);
        }
        due("classes()", x.classes(), 12);
    }

    // ---- refusals

    private static void refusedOnce() {
        CHECK.says("The block behind 2", "Refused .. the first of: each call counts once, however much is not as told");
        TriggerMatches x = Calls.with("a;a>b;");
        x.term(4, 9, 9);
        x.term(6, 9, 9);
        x.alike(9, 9);
        x.of(9, 9);
        x.same(9, 9);
        x.about(9, 9);
        x.rule(9, 9);
        x.finding(9, -9, 9);
        x.sets(9, 99);
        x.writing(9, -9);
        CHECK.due("told(0) .. told(2)", Calls.refusals(x), 10, 0, 0);
    }

    private static void refusedEach() {
        CHECK.says("The block behind 2", "Refused, changing nothing but how often: by each call that can be BAD");
        TriggerMatches x = Calls.with("f(a)=b;c;f(x)>c;");
        IntSupplier[] calls = {() -> x.term(9, 0, 0), () -> x.alike(0, 9), () -> x.of(0, 9), () -> x.same(0, 9),
            () -> x.about(0, 9), () -> x.rule(0, 9), () -> x.finding(0, 0, 9), () -> x.drop(9), () -> x.sets(0, 9),
            () -> x.rounds(99), () -> x.last(9), () -> x.type(999), () -> x.told(99)};
        for (int i = 0; i < calls.length; i++) {
            BOUNDS.bad(x, "BAD call " + i, calls[i]);
            due("told(0)", x.told(0), i + 1);
        }
        BOUNDS.badWriting(x, "BAD writing", () -> x.writing(9, 0));
        due("told(0)", x.told(0), calls.length + 1);
        due("reads() yet", x.reads(), 3);
    }

    // ---- promise 22

    private static void toldBad() {
        CHECK.says("Promise 22", "0 .. 8. BAD");
        TriggerMatches x = Calls.with("a;");
        BOUNDS.bad(x, "told(-1)", () -> x.told(-1));
        BOUNDS.bad(x, "told(9)", () -> x.told(9));
        BOUNDS.bad(x, "told(LEAST)", () -> x.told(LEAST));
        BOUNDS.bad(x, "told(MOST)", () -> x.told(MOST));
        BOUNDS.asks(x, "told(0)", () -> x.told(0), 4);
        BOUNDS.asks(x, "told(8)", () -> x.told(8), 1);
    }

    private static void toldHowOften() {
        CHECK.says("Promise 22", "How often refused: BAD (0), NO (1), FULL (2)");
        TriggerMatches x = Calls.chain(50);
        for (int i = 0; i < 8; i++) {
            x.back();
        }
        CHECK.due("none", Calls.refusals(x), 0, 0, 0);
        for (int i = 1; i <= 3; i++) {
            x.back();
            due("told(1)", x.told(1), i);
        }
        for (int t = 42; t < 50; t++) {
            x.term(4, t - 1, 0);
        }
        for (int i = 1; i <= 2; i++) {
            x.term(1, 0, 0);
            due("told(2)", x.told(2), i);
        }
        for (int i = 1; i <= 5; i++) {
            x.of(-1, 0);
            due("told(0)", x.told(0), i);
        }
        CHECK.due("all", Calls.refusals(x), 5, 3, 2);
        x.anew();
        x.back();
        CHECK.due("all, behind anew() and back()", Calls.refusals(x), 5, 3, 2);
    }

    private static void callsUpTo512() {
        CHECK.says("What it is", "An object is used for at most 512 calls: the last one is as good as the first");
        TriggerMatches x = new TriggerMatches();
        for (int call = 1; call <= 511; call++) {
            x.of(0, 0);
        }
        due("told(0) as the 512th call", x.told(0), 511);
        TriggerMatches y = new TriggerMatches();
        for (int call = 1; call <= 511; call++) {
            due("anew()", y.anew(), 0);
        }
        due("back() as the 512th call", y.back(), 7);
        TriggerMatches z = Calls.with("f(a);f(x)>b;");
        // 14 calls by now: a clear(), 12 bytes and reads()
        for (int call = 15; call <= 511; call += 7) {
            due("round()", z.round(), 1);
            due("round() again", z.round(), 0);
            due("still()", z.still(), 1);
            due("told(4)", z.told(4), 3);
            due("same(1, 2)", z.same(1, 2), 1);
            due("back()", z.back(), 2);
            due("back() again", z.back(), 1);
        }
        due("round() as the 512th call", z.round(), 1);
    }

    private static void toldBytes() {
        CHECK.says("Promise 22", "bytes of THE TEXT (3)");
        TriggerMatches x = new TriggerMatches();
        due("none", x.told(3), 0);
        for (int n = 1; n <= 121; n++) {
            x.type('a');
            due("told(3)", x.told(3), Math.min(120, n));
        }
        x.clear();
        due("none again", x.told(3), 0);
    }

    private static void toldTermsAndRules() {
        CHECK.says("Promise 22", "TERMS (4), RULES (5), THE ORDER (6), LIMIT (7)");
        TriggerMatches x = Calls.chain(50);
        due("told(4)", x.told(4), 50);
        due("told(5)", x.told(5), 0);
        Calls.say(x, "a>a;".repeat(6));
        due("told(4)", x.told(4), 50);
        due("told(5)", x.told(5), 6);
        due("told(6)", x.told(6), 0);
        due("told(7)", x.told(7), 3);
        x.sets(0, 3);
        x.sets(1, 9);
        due("told(6)", x.told(6), 3);
        due("told(7)", x.told(7), 9);
    }

    private static void toldStates() {
        CHECK.says("Promise 22", "STATES (8): 0 .. 8");
        TriggerMatches x = new TriggerMatches();
        for (int n = 0; n <= 10; n++) {
            due("told(8)", x.told(8), Math.min(8, n));
            x.anew();
        }
        for (int n = 7; n >= 0; n--) {
            x.back();
            due("told(8)", x.told(8), n);
        }
    }

    // ---- promise 23

    /** What digest should be, by the calls that it is told by. */
    private static long byOtherCalls(TriggerMatches x) {
        long h = 2039;
        for (int what = 0; what <= 8; what++) {
            h = 31 * h + x.told(what);
        }
        for (int t = 0; t < x.told(4); t++) {
            for (int what = 0; what <= 4; what++) {
                h = 31 * h + x.of(t, what);
            }
        }
        h = 31 * h + x.classes();
        for (int r = 0; r < x.told(5); r++) {
            for (int what = 0; what <= 3; what++) {
                h = 31 * h + x.rule(r, what);
            }
        }
        return h;
    }

    private static void digestOfNone() {
        CHECK.says("Promise 23", "h = 2039; then h = 31 h + v for each v: of nothing");
        TriggerMatches x = new TriggerMatches();
        long h = 2039;
        for (int v : new int[] {0, 0, 0, 0, 0, 0, 0, 3, 0, 0}) {
            h = 31 * h + v;
        }
        due("digest()", x.digest(), h);
        due("digest() by other calls", x.digest(), byOtherCalls(x));
    }

    private static void digestOfSome() {
        CHECK.says("Promise 23", "told(0) to told(8); of TERMS of(0) to of(4); classes(); of RULES rule(0) to rule(3)");
        TriggerMatches x = Calls.with("h(f(a),b)=c;f(x)>x;h(x,y)>g(y);");
        x.of(9, 9);
        x.sets(0, 2);
        due("digest()", x.digest(), byOtherCalls(x));
        x.round();
        due("digest() behind a ROUND", x.digest(), byOtherCalls(x));
        x.sets(1, 0);
        due("digest(): rule(4) is not in it, but LIMIT is", x.digest(), byOtherCalls(x));
    }

    private static void digestWrapsAround() {
        CHECK.says("Promise 23", "h = 31 h + v: as many numbers as can be, by Java's wrap-around");
        TriggerMatches x = Calls.chain(50);
        Calls.say(x, "f(x)>x;g(x)>x;h(x,y)>x;a>a;b>b;f(f(x))>x;");
        due("digest()", x.digest(), byOtherCalls(x));
    }

    private static void digestChangesNothing() {
        CHECK.says("Promise 23", "no S: digest() changes nothing, counts nothing");
        TriggerMatches x = Calls.with("f(a);f(x)>b;");
        long h = x.digest();
        for (int i = 0; i < 3; i++) {
            CHECK.that("digest() again", x.digest() == h);
        }
        CHECK.due("told(0) .. told(2)", Calls.refusals(x), 0, 0, 0);
        due("told(8)", x.told(8), 1);
        x.told(9);
        CHECK.that("digest() behind a refusal is another one", x.digest() != h);
        due("rule(1, 0)", x.rule(1, 0), BAD);
    }
}
