/** Promises 1 to 8: a new object, term, alike, anew, of, same, classes, about. */
public final class TermsTest {
    private static final int NONE = TriggerMatches.NONE, BAD = TriggerMatches.BAD, FULL = TriggerMatches.FULL;
    private static final Check CHECK = new Check("TermsTest");

    public static void main(String[] args) {
        newObject();
        termComes();
        termRefused();
        termFull();
        alikeByCongruence();
        alikeRefused();
        anewEmpties();
        ofTellsEach();
        sameAsks();
        classesCount();
        aboutTellsEach();
        aboutFewestSigns();
        CHECK.end();
    }

    private static void due(String call, long got, long want) {
        CHECK.due(call, got, want);
    }

    private static void newObject() {
        TriggerMatches x = new TriggerMatches();
        for (int what = 0; what <= 6; what++) {
            due("new told(" + what + ")", x.told(what), 0);
        }
        due("new told(7)", x.told(7), 3);
        due("new told(8)", x.told(8), 0);
        due("new classes", x.classes(), 0);
        CHECK.due("new last", Calls.last(x), 0, 0, 0, 0, 0);
        due("new still", x.still(), 1);
        due("new of", x.of(0, 0), BAD);
        due("new rule", x.rule(0, 0), BAD);
    }

    private static void termComes() {
        TriggerMatches x = new TriggerMatches();
        due("a", x.term(0, -7, 99), 0);
        due("d", x.term(3, 0, 0), 1);
        due("f(a)", x.term(4, 0, -1), 2);
        due("g(a)", x.term(5, 0, 77), 3);
        due("h(a,d)", x.term(6, 0, 1), 4);
        due("h(d,a)", x.term(6, 1, 0), 5);
        due("a again", x.term(0, 5, 5), 0);
        due("f(a) again", x.term(4, 0, 1), 2);
        due("h(a,d) again", x.term(6, 0, 1), 4);
        due("terms", x.told(4), 6);
        due("each call left a state, as long as there is room", x.told(8), 8);
        x.alike(0, 1);
        due("f(d) is another term than f(a), though alike", x.term(4, 1, 0), 6);
        due("f(d) is alike f(a)", x.same(6, 2), 1);
        due("its class", x.of(6, 4), 2);

        TriggerMatches y = Calls.with("a;f(x)>g(f(x));f(a);");
        y.round();
        due("g(f(a)) of generation 1", y.of(2, 3), 1);
        due("it is there", y.term(5, 1, 0), 2);
        due("so it has generation 0 then", y.of(2, 3), 0);
        y.back();
        due("taken back, it has 1", y.of(2, 3), 1);
    }

    private static void termRefused() {
        TriggerMatches x = new TriggerMatches();
        due("sign 7", x.term(7, 0, 0), BAD);
        due("sign -1", x.term(-1, 0, 0), BAD);
        due("sign least", x.term(Integer.MIN_VALUE, 0, 0), BAD);
        due("f without a part", x.term(4, 0, 0), BAD);
        x.term(0, 0, 0);
        due("f of term 1", x.term(4, 1, 0), BAD);
        due("g of term -1", x.term(5, -1, 0), BAD);
        due("h, the first one bad", x.term(6, 1, 0), BAD);
        due("h, the second one bad", x.term(6, 0, 1), BAD);
        due("h, the second one least", x.term(6, 0, Integer.MIN_VALUE), BAD);
        CHECK.due("refusals", Calls.refusals(x), 9, 0, 0);
        due("terms", x.told(4), 1);
        due("states", x.told(8), 1);
    }

    private static void termFull() {
        TriggerMatches x = new TriggerMatches();
        x.term(0, 0, 0);
        for (int t = 1; t < 50; t++) {
            due("f^" + t, x.term(4, t - 1, 0), t);
        }
        due("one more", x.term(1, 0, 0), FULL);
        due("bad ahead of full", x.term(4, 50, 0), BAD);
        due("one that is there", x.term(4, 7, 0), 8);
        CHECK.due("refusals", Calls.refusals(x), 1, 0, 1);
        due("terms", x.told(4), 50);
    }

    private static void alikeByCongruence() {
        TriggerMatches x = Calls.with("h(f(a),g(b));h(f(c),g(d));");
        // a f(a) b g(b) h c f(c) d g(d) h: 0 .. 9
        due("classes", x.classes(), 10);
        due("a = c: f(a) = f(c) too", x.alike(5, 0), 2);
        due("f", x.of(6, 4), 1);
        due("h not yet", x.same(4, 9), 0);
        due("g(b) = g(d): the h's too, b and d not", x.alike(3, 8), 2);
        due("h", x.of(9, 4), 4);
        due("b, d", x.same(2, 7), 0);
        due("once more: none fewer", x.alike(8, 3), 0);
        due("itself", x.alike(4, 4), 0);
        due("states", x.told(8), 5);

        TriggerMatches y = Calls.with("f(f(f(f(f(f(a))))));");
        due("f^4(a) = a", y.alike(4, 0), 3);
        due("f^6(a) = f^2(a)", y.of(6, 4), 2);
        due("f(a) = a: all one", y.alike(1, 0), 3);
        due("one class", y.classes(), 1);
        due("a class is named by its least term", y.of(6, 4), 0);

        TriggerMatches z = Calls.with("f(a);f(b);f(c)=a;f(d)=b;");
        // a f(a) b f(b) c f(c) d f(d)
        due("c = d, so f(c) = f(d), so a = b, so f(a) = f(b)", z.alike(4, 6), 3);
        due("what follows for earlier terms", z.same(1, 3), 1);
    }

    private static void alikeRefused() {
        TriggerMatches x = Calls.with("a;b;");
        due("t -1", x.alike(-1, 0), BAD);
        due("t 2", x.alike(2, 0), BAD);
        due("u 2", x.alike(0, 2), BAD);
        due("u most", x.alike(0, Integer.MAX_VALUE), BAD);
        CHECK.due("refusals", Calls.refusals(x), 4, 0, 0);
        due("states", x.told(8), 1);
    }

    private static void anewEmpties() {
        TriggerMatches x = Calls.with("f(a)=b;f(x)>x;");
        x.sets(0, 2);
        x.sets(1, 7);
        x.round();
        due("anew", x.anew(), 3);
        due("terms", x.told(4), 0);
        due("rules", x.told(5), 0);
        due("classes", x.classes(), 0);
        due("the text stays", x.told(3), 14);
        due("the order stays", x.told(6), 2);
        due("the limit stays", x.told(7), 7);
        CHECK.due("last stays", Calls.last(x), 1, 0, 0, 0, 1);
        due("states", x.told(8), 3);
        due("b comes as the first one", x.term(1, 0, 0), 0);
        due("its class", x.of(0, 4), 0);
        due("anew of one", x.anew(), 1);
        due("anew of none", x.anew(), 0);
        x.back();
        x.back();
        x.back();
        due("back: all terms", x.back(), 2);
        due("terms", x.told(4), 3);
        due("rules", x.told(5), 1);
    }

    private static void ofTellsEach() {
        TriggerMatches x = Calls.with("h(a,g(d));");
        // a d g(d) h(a,g(d))
        CHECK.due("a", fiveOf(x, 0), 0, NONE, NONE, 0, 0);
        CHECK.due("d", fiveOf(x, 1), 3, NONE, NONE, 0, 1);
        CHECK.due("g(d)", fiveOf(x, 2), 5, 1, NONE, 0, 2);
        CHECK.due("h(a,g(d))", fiveOf(x, 3), 6, 0, 2, 0, 3);
        due("what 5", x.of(0, 5), BAD);
        due("what -1", x.of(0, -1), BAD);
        due("term 4", x.of(4, 0), BAD);
        due("term -1", x.of(-1, 0), BAD);
        CHECK.due("refusals", Calls.refusals(x), 4, 0, 0);
    }

    private static long[] fiveOf(TriggerMatches x, int t) {
        return new long[] {x.of(t, 0), x.of(t, 1), x.of(t, 2), x.of(t, 3), x.of(t, 4)};
    }

    private static void sameAsks() {
        TriggerMatches x = Calls.with("a=b;c;");
        due("a, b", x.same(0, 1), 1);
        due("b, a", x.same(1, 0), 1);
        due("a, c", x.same(0, 2), 0);
        due("c, c", x.same(2, 2), 1);
        due("a, 3", x.same(0, 3), BAD);
        due("-1, a", x.same(-1, 0), BAD);
        CHECK.due("refusals", Calls.refusals(x), 2, 0, 0);
        due("no state by it", x.told(8), 1);
    }

    private static void classesCount() {
        TriggerMatches x = Calls.with("a=b;c;f(a);f(b);f(c);");
        due("a b, c, f(a) f(b), f(c)", x.classes(), 4);
        x.alike(2, 0);
        due("a b c, f(..)", x.classes(), 2);
        x.back();
        due("back", x.classes(), 4);
    }

    private static void aboutTellsEach() {
        TriggerMatches x = Calls.with("a=b;f(a);h(a,b);h(c,b);f(c);");
        // a b f(a) h(a,b) c h(c,b) f(c)
        due("terms of a's class", x.about(1, 0), 2);
        due("terms of c's class", x.about(4, 0), 1);
        due("a or b is a part of f(a), h(a,b), h(c,b)", x.about(0, 3), 3);
        due("c is a part of h(c,b), f(c)", x.about(4, 3), 2);
        due("f(a) is no part", x.about(2, 3), 0);
        due("what 4", x.about(0, 4), BAD);
        due("what -1", x.about(0, -1), BAD);
        due("term 7", x.about(7, 0), BAD);
        due("term -1", x.about(-1, 0), BAD);
        CHECK.due("refusals", Calls.refusals(x), 4, 0, 0);

        TriggerMatches y = Calls.with("f(a);f(x)>g(f(f(x)));");
        y.round();
        // a f(a) f(f(a)) g(f(f(a))), the last one alike f(a)
        due("a term of generation 1", y.of(3, 3), 1);
        due("the least generation of its class", y.about(3, 1), 0);
        due("that of f(f(a))", y.about(2, 1), 1);
        due("a text for f(f(a))", y.about(2, 2), 3);
        due("the fewest signs for g(f(f(a)))", y.about(3, 2), 2);
    }

    private static void aboutFewestSigns() {
        TriggerMatches y = Calls.with("g(f(a));f(a)=b;");
        due("g(b) is not there, but a text for g(f(a))", y.about(2, 2), 2);

        TriggerMatches x = new TriggerMatches();
        x.term(0, 0, 0);
        for (int t = 1; t < 50; t++) {
            x.term(6, t - 1, t - 1);
        }
        due("h(a,a)", x.about(1, 2), 3);
        due("2^19 - 1", x.about(18, 2), 524287);
        due("2^20 - 1 is too much", x.about(19, 2), 1000000);
        due("far too much", x.about(49, 2), 1000000);
        x.alike(49, 0);
        due("a round about way", x.about(49, 2), 1);
        due("the others as before", x.about(19, 2), 1000000);
        x.back();
        due("t31 = t3 by t30 = t2, and so on to t49 = t21", x.alike(30, 2), 20);
        due("h(h(a,a),h(a,a))", x.about(30, 2), 7);
        due("by its parts' classes", x.about(31, 2), 15);
        due("and on", x.about(46, 2), 524287);
        due("up to the most", x.about(47, 2), 1000000);
    }
}
