/** Promises 9 to 16: rule, finding, drop, sets, round, rounds, last, still. */
public final class RulesTest {
    private static final int NONE = TriggerMatches.NONE, BAD = TriggerMatches.BAD;
    private static final Check CHECK = new Check("RulesTest");

    public static void main(String[] args) {
        ruleTellsEach();
        findingsByClasses();
        findingsAreInOrder();
        findingsAcrossClasses();
        findingsUpTo200();
        findingRefused();
        dropMovesUp();
        setsTellsWhatWas();
        roundAsClassesAre();
        roundByLeastTerms();
        roundLeavesForRoom();
        roundLate();
        roundOrders();
        roundsUntilStill();
        lastTellsEach();
        stillAsks();
        CHECK.end();
    }

    private static void due(String call, long got, long want) {
        CHECK.due(call, got, want);
    }

    private static void ruleTellsEach() {
        TriggerMatches x = Calls.with("h(f(x),h(x,a))>g(g(x));b>c;h(x,h(y,z))>z;", "h(a,b);");
        CHECK.due("rule 0", fiveOfRule(x, 0), 1, 4, 2, 0, 0);
        CHECK.due("rule 1", fiveOfRule(x, 1), 0, 1, 1, 1, 1);
        CHECK.due("rule 2", fiveOfRule(x, 2), 3, 2, 0, 0, 0);
        x.sets(1, 0);
        due("all late", x.rule(1, 4), 0);
        due("found yet", x.rule(1, 3), 1);
        due("rule 3", x.rule(3, 0), BAD);
        due("rule -1", x.rule(-1, 0), BAD);
        due("what 5", x.rule(0, 5), BAD);
        due("what -1", x.rule(0, -1), BAD);
        CHECK.due("refusals", Calls.refusals(x), 4, 0, 0);
    }

    private static long[] fiveOfRule(TriggerMatches x, int r) {
        return new long[] {x.rule(r, 0), x.rule(r, 1), x.rule(r, 2), x.rule(r, 3), x.rule(r, 4)};
    }

    /** LEFT is looked for among classes: f(g(a)) is not there as a term. */
    private static void findingsByClasses() {
        TriggerMatches x = Calls.with("f(b);g(a);f(g(x))>c;");
        // b f(b) a g(a)
        due("not yet", x.rule(0, 3), 0);
        x.alike(0, 3);
        due("b = g(a): f(b) stands for f(g(a))", x.rule(0, 3), 1);
        CHECK.due("it", Calls.finding(x, 0, 0), 2, NONE, NONE, 1, 1);
        due("a round", x.round(), 1);
        due("c comes", x.told(4), 5);
        due("c is alike f(b)", x.same(4, 1), 1);
        x.back();
        x.back();
        due("taken back", x.rule(0, 3), 0);
    }

    private static void findingsAreInOrder() {
        TriggerMatches x = Calls.with("h(b,a);h(a,b);h(a,a);h(b,h(b,a));h(y,x)>x;h(x,z)>z;h(x,x)>x;");
        // b a h(b,a) h(a,b) h(a,a) h(b,h(b,a))
        due("how many", x.rule(0, 3), 4);
        CHECK.due("x b, y a", Calls.finding(x, 0, 0), 0, 1, NONE, 3, 1);
        CHECK.due("x a, y b", Calls.finding(x, 0, 1), 1, 0, NONE, 2, 1);
        CHECK.due("x a, y a", Calls.finding(x, 0, 2), 1, 1, NONE, 4, 1);
        CHECK.due("x h(b,a), y b", Calls.finding(x, 0, 3), 2, 0, NONE, 5, 1);
        CHECK.due("no more", Calls.finding(x, 0, 4), NONE, NONE, NONE, NONE, NONE);
        CHECK.due("y is nowhere: x b, z a", Calls.finding(x, 1, 0), 0, NONE, 1, 2, 1);
        CHECK.due("x b, z h(b,a)", Calls.finding(x, 1, 1), 0, NONE, 2, 5, 1);
        CHECK.due("x a, z b", Calls.finding(x, 1, 2), 1, NONE, 0, 3, 1);
        due("the same letter twice", x.rule(2, 3), 1);
        CHECK.due("h(a,a)", Calls.finding(x, 2, 0), 1, NONE, NONE, 4, 1);
        x.alike(0, 1);
        due("a = b: one class, h once", x.rule(0, 3), 2);
        CHECK.due("b, b", Calls.finding(x, 0, 0), 0, 0, NONE, 2, 1);
        CHECK.due("h, b", Calls.finding(x, 0, 1), 2, 0, NONE, 5, 1);
    }

    /** Parts without letters, and a letter that a part far from it settles. */
    private static void findingsAcrossClasses() {
        TriggerMatches x = Calls.with("h(f(a),g(b));h(f(b),g(b));h(f(a),g(a));h(f(x),g(x))>x;h(f(a),y)>y;h(z,g(b))>z;");
        // a f(a) b g(b) h(fa,gb) f(b) h(fb,gb) g(a) h(fa,ga)
        due("rule 0", x.rule(0, 3), 2);
        CHECK.due("a", Calls.finding(x, 0, 0), 0, NONE, NONE, 8, 1);
        CHECK.due("b", Calls.finding(x, 0, 1), 2, NONE, NONE, 6, 1);
        due("rule 1", x.rule(1, 3), 2);
        CHECK.due("g(b)", Calls.finding(x, 1, 0), NONE, 3, NONE, 4, 1);
        CHECK.due("g(a)", Calls.finding(x, 1, 1), NONE, 7, NONE, 8, 1);
        due("rule 2", x.rule(2, 3), 2);
        CHECK.due("f(a)", Calls.finding(x, 2, 0), NONE, NONE, 1, 4, 1);
        CHECK.due("f(b)", Calls.finding(x, 2, 1), NONE, NONE, 5, 6, 1);
    }

    private static void findingsUpTo200() {
        TriggerMatches x = new TriggerMatches();
        int many = 15;
        x.term(0, 0, 0);
        for (int t = 1; t < many; t++) {
            x.term(5, t - 1, 0);
        }
        for (int t = 0; t < many; t++) {
            x.term(4, t, 0);
            x.alike(many, many + t);
        }
        x.term(6, many, many);
        Calls.say(x, "h(f(x),f(y))>x;");
        due("15 times 15 are too many", x.rule(0, 3), 200);
        due("none late", x.rule(0, 4), 200);
        CHECK.due("the last one", Calls.finding(x, 0, 199), 13, 4, NONE, 30, 1);
        CHECK.due("none behind", Calls.finding(x, 0, 200), NONE, NONE, NONE, NONE, NONE);
        due("by a and g(a) alike h all g's are alike", x.round(), 2);
        due("done", x.last(0), 200);
    }

    private static void findingRefused() {
        TriggerMatches x = Calls.with("a;a>b;");
        due("rule 1", x.finding(1, 0, 0), BAD);
        due("rule -1", x.finding(-1, 0, 0), BAD);
        due("k -1", x.finding(0, -1, 0), BAD);
        due("what 5", x.finding(0, 0, 5), BAD);
        due("what -1", x.finding(0, 0, -1), BAD);
        due("what 5 of none", x.finding(0, 9, 5), BAD);
        due("not so many", x.finding(0, 1, 3), NONE);
        due("by far not so many", x.finding(0, Integer.MAX_VALUE, 3), NONE);
        CHECK.due("no letters", Calls.finding(x, 0, 0), NONE, NONE, NONE, 0, 1);
        CHECK.due("refusals", Calls.refusals(x), 6, 0, 0);
    }

    private static void dropMovesUp() {
        TriggerMatches y = Calls.with("f(x)>x;g(x)>x;g(g(a));");
        due("none of the first one", y.rule(0, 3), 0);
        y.drop(0);
        due("the one behind it has two", y.rule(0, 3), 2);
        y.back();
        due("back: none of the first one", y.rule(0, 3), 0);

        TriggerMatches x = Calls.with("a>b;f(x)>a;g(y)>a;");
        due("rule 3", x.drop(3), BAD);
        due("rule -1", x.drop(-1), BAD);
        due("the middle one", x.drop(1), 2);
        due("the first one has no letters", x.rule(0, 0), 0);
        due("g(y) is rule 1 now", x.rule(1, 0), 1);
        Calls.say(x, "g(a);");
        due("g(a) is found by it", x.rule(1, 3), 1);
        due("rule 2 is no more", x.rule(2, 0), BAD);
        due("the last one", x.drop(1), 1);
        due("the only one", x.drop(0), 0);
        due("none", x.drop(0), BAD);
        due("states", x.told(8), 5);
        due("back", x.back(), 4);
        due("a rule again", x.told(5), 1);
        CHECK.due("refusals", Calls.refusals(x), 4, 0, 0);
    }

    private static void setsTellsWhatWas() {
        TriggerMatches x = new TriggerMatches();
        due("order 3", x.sets(0, 3), 0);
        due("order 1", x.sets(0, 1), 3);
        due("limit 9", x.sets(1, 9), 3);
        due("limit 0", x.sets(1, 0), 9);
        due("order 4", x.sets(0, 4), BAD);
        due("order -1", x.sets(0, -1), BAD);
        due("limit 10", x.sets(1, 10), BAD);
        due("limit -1", x.sets(1, -1), BAD);
        due("what 2", x.sets(2, 0), BAD);
        due("what -1", x.sets(-1, 0), BAD);
        due("order told", x.told(6), 1);
        due("limit told", x.told(7), 0);
        due("no state by it", x.told(8), 0);
        CHECK.due("refusals", Calls.refusals(x), 6, 0, 0);
    }

    /** What a ROUND's doings make stand is not found by the same ROUND. */
    private static void roundAsClassesAre() {
        TriggerMatches x = Calls.with("f(a);f(x)>f(g(x));g(x)>b;");
        due("f(g(a)) comes with g(a)", x.round(), 1);
        CHECK.due("last", Calls.last(x), 1, 0, 0, 2, 0);
        due("g(a)", x.of(2, 0), 5);
        due("its generation", x.of(2, 3), 1);
        due("f(g(a)) is alike f(a)", x.same(3, 1), 1);
        due("states", x.told(8), 2);
        // now: f(x) at a (generation 1) and g(a) (2), g(x) at a (2)
        CHECK.due("a", Calls.finding(x, 0, 0), 0, NONE, NONE, 1, 1);
        CHECK.due("g(a)", Calls.finding(x, 0, 1), 2, NONE, NONE, 1, 2);
        CHECK.due("g of a", Calls.finding(x, 1, 0), 0, NONE, NONE, 2, 2);
        due("the next round", x.round(), 2);
        CHECK.due("last", Calls.last(x), 3, 0, 0, 3, 0);
        due("f(g(g(a))) has generation 2", x.of(5, 3), 2);
        due("b", x.of(6, 0), 1);
        due("b's generation", x.of(6, 3), 2);
    }

    /** By then a LETTER's CLASS is the one its least TERM is in, and that one's least TERM is taken. */
    private static void roundByLeastTerms() {
        TriggerMatches x = Calls.with("a;f(b);b>a;f(x)>g(x);");
        // a b f(b): b > a is done first, so that x stands for a then
        due("two change", x.round(), 2);
        CHECK.due("last", Calls.last(x), 2, 0, 0, 1, 1);
        due("g(a), not g(b)", x.of(3, 1), 0);
        due("it is alike f(b)", x.of(3, 4), 2);
        x.back();
        x.sets(0, 2);
        due("from the last rule back", x.round(), 2);
        due("g(b), not g(a)", x.of(3, 1), 1);
    }

    private static void roundLeavesForRoom() {
        TriggerMatches x = new TriggerMatches();
        x.term(0, 0, 0);
        for (int t = 1; t < 48; t++) {
            x.term(4, t - 1, 0);
        }
        Calls.say(x, "f(x)>h(g(x),g(x));a>f(a);");
        // 48 terms, 47 findings of rule 0, one of rule 1
        due("the first one takes the room", x.round(), 2);
        CHECK.due("last", Calls.last(x), 2, 0, 46, 2, 1);
        due("full", x.told(4), 50);
        due("g(a) came once", x.of(48, 0), 5);
        due("all is one now but for g and h: f(a) is alike h(g(a),g(a))", x.classes(), 2);
        x.back();
        x.term(6, 0, 0);
        due("room for one is no room for two", x.round(), 1);
        CHECK.due("last", Calls.last(x), 1, 0, 47, 0, 1);
        due("none came", x.told(4), 49);
        due("for want of room it is still", x.still(), 1);
        due("and a round says so", x.round(), 0);
    }

    private static void roundLate() {
        TriggerMatches x = Calls.with("a;f(x)>x;a>f(a);");
        x.sets(1, 0);
        due("all late", x.round(), 0);
        CHECK.due("last", Calls.last(x), 0, 1, 0, 0, 0);
        due("still, if late", x.still(), 1);
        x.sets(1, 1);
        due("in time", x.still(), 0);

        TriggerMatches y = Calls.with("f(a);f(x)>h(f(g(x)),a);");
        // f(g(a)) (1), by it f(g(g(a))) (2), and so on: never alike one of a lower generation
        due("up to the limit", y.rounds(9), 3);
        CHECK.due("last", Calls.last(y), 3, 1, 0, 0, 0);
        due("late one's generation", y.finding(0, 3, 4), 4);
        due("those in time", y.rule(0, 4), 3);
        due("all", y.rule(0, 3), 4);
        y.sets(1, 9);
        due("room for the rest", y.rounds(9), 6);
        due("of generation 9", y.of(y.told(4) - 1, 3), 9);
        due("alike one of generation 8", y.about(y.told(4) - 1, 1), 8);
        due("as late as can be", y.finding(0, 9, 4), 10);
        due("still", y.still(), 1);
    }

    private static void roundOrders() {
        // terms come in the order in which findings are done
        String text = "f(a);g(b);f(x)>h(x,x);g(x)>h(x,c);b>d;";
        // a f(a) b g(b); c and d come, the places are f(a) 1, g(b) 3, b 2
        due("by rules, h(a,a)", comesAt(text, 0, 4), 6);
        due("by rules, c", comesAt(text, 0, 5), 2);
        due("by rules, d", comesAt(text, 0, 7), 3);
        due("by rules from the last one, d", comesAt(text, 2, 4), 3);
        due("by rules from the last one, c", comesAt(text, 2, 5), 2);
        due("by rules from the last one, h(a,a)", comesAt(text, 2, 7), 6);
        due("by place, h(a,a)", comesAt(text, 3, 4), 6);
        due("by place, d", comesAt(text, 3, 5), 3);
        due("by place, c", comesAt(text, 3, 6), 2);
        // as many rules as can be, each with a sign of its own at the right
        String six = "d;d>a;d>b;d>c;d>f(d);d>g(d);d>h(d,d);";
        for (int r = 0; r < 6; r++) {
            int sign = r < 3 ? r : r + 1;
            due("six rules, " + r, comesAt(six, 0, 1 + r), sign);
            due("six rules from the last one, " + r, comesAt(six, 2, 6 - r), sign);
        }
        generations();
    }

    /** A later rule's finding of a lower generation goes first by order 1 alone. */
    private static void generations() {
        String[] texts = {"f(a);f(x)>g(f(b));", "g(x)>h(x,x);f(x)>c;"};
        for (int order = 0; order <= 3; order++) {
            TriggerMatches x = Calls.with(texts[0]);
            x.round();
            // a f(a) b f(b) g(f(b)), the last one alike f(a), b and f(b) of generation 1
            x.drop(0);
            Calls.say(x, texts[1]);
            CHECK.due("g of f(b)", Calls.finding(x, 0, 0), 3, NONE, NONE, 1, 2);
            CHECK.due("f of a", Calls.finding(x, 1, 0), 0, NONE, NONE, 1, 1);
            CHECK.due("f of b", Calls.finding(x, 1, 1), 2, NONE, NONE, 3, 2);
            x.sets(0, order);
            due("all change", x.round(), 3);
            due("first by order " + order, x.of(5, 0), order == 0 || order == 3 ? 6 : 2);
            int h = order == 0 || order == 3 ? 5 : 6;
            due("h by order " + order, x.of(h, 0), 6);
            // where f of b is done ahead of g, f(b) is alike f(a) by then, whose least term is 1
            due("its part by order " + order, x.of(h, 1), order == 2 ? 1 : 3);
        }
    }

    private static int comesAt(String text, int order, int t) {
        TriggerMatches x = Calls.with(text);
        x.sets(0, order);
        x.round();
        return x.of(t, 0);
    }

    private static void roundsUntilStill() {
        TriggerMatches x = Calls.with("f(f(f(f(f(a)))));f(x)>x;");
        due("n 0", x.rounds(0), BAD);
        due("n 10", x.rounds(10), BAD);
        due("n -1", x.rounds(-1), BAD);
        due("one round is enough, the next changes nothing", x.rounds(9), 1);
        CHECK.due("last is that of the next", Calls.last(x), 1, 0, 0, 0, 0);
        due("one state by it", x.told(8), 2);
        due("none changes", x.rounds(1), 0);
        x.back();
        due("back to where it began", x.back(), 1);
        due("classes", x.classes(), 6);
        due("one at most", x.rounds(1), 1);
        CHECK.due("last is that one's", Calls.last(x), 5, 0, 0, 0, 1);
        CHECK.due("refusals", Calls.refusals(x), 3, 0, 0);

        TriggerMatches y = Calls.with("f(a);f(x)>h(f(g(x)),a);");
        due("two at most", y.rounds(2), 2);
        due("one more", y.rounds(9), 1);
    }

    private static void lastTellsEach() {
        TriggerMatches x = Calls.with("f(a);b;f(x)>h(g(x),b);a>b;h(x,y)>g(a);");
        due("two change: terms come by one, a and b become alike by the other", x.round(), 2);
        CHECK.due("last", Calls.last(x), 2, 0, 0, 2, 1);
        due("what 5", x.last(5), BAD);
        due("what -1", x.last(-1), BAD);
        // h(g(a),b) is found now; it and g(a), terms of the round ahead, become alike
        due("the next one", x.round(), 1);
        CHECK.due("last of it", Calls.last(x), 3, 0, 0, 0, 1);
        x.back();
        CHECK.due("last is not taken back", Calls.last(x), 3, 0, 0, 0, 1);
        CHECK.due("refusals", Calls.refusals(x), 2, 0, 0);

        TriggerMatches y = Calls.with("a;b;a>c;b>c;");
        due("both change", y.round(), 2);
        CHECK.due("the second one makes a and b alike", Calls.last(y), 2, 0, 0, 1, 1);

        // 'ahead of it' is taken as ahead of the finding: c and d come by the round itself
        TriggerMatches z = Calls.with("a;b;a>f(c);b>f(d);a>d;b>c;");
        due("all change", z.round(), 4);
        CHECK.due("d, which came by the second one, becomes alike a, and c alike b", Calls.last(z), 4, 0, 0, 4, 2);
    }

    private static void stillAsks() {
        TriggerMatches x = Calls.with("f(a);f(x)>b;");
        CHECK.due("last ahead", Calls.last(x), 0, 0, 0, 0, 0);
        long ahead = x.digest();
        due("b would come", x.still(), 0);
        due("nothing changed by asking", x.digest(), ahead);
        CHECK.due("last as ahead", Calls.last(x), 0, 0, 0, 0, 0);
        Calls.say(x, "b;");
        due("b would be alike f(a)", x.still(), 0);
        x.alike(1, 2);
        due("all that is so", x.still(), 1);
        Calls.say(x, "a>c;");
        x.sets(1, 0);
        due("what would come is late", x.still(), 1);
        x.sets(1, 1);
        due("not late", x.still(), 0);
    }
}
