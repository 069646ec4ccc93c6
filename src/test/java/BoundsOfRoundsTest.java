/** The bounds that promises 13 to 16 name, and those of DOING and ROUNDS: a test for each sentence. */
public final class BoundsOfRoundsTest {
    private static final int NONE = TriggerMatches.NONE;
    private static final int LEAST = Bounds.LEAST, MOST = Bounds.MOST;
    private static final Check CHECK = new Check("BoundsOfRoundsTest");
    private static final Bounds BOUNDS = new Bounds(CHECK);

    public static void main(String[] args) {
        doingPartsFirst();
        doingJustThese();
        doingLeastTerms();
        doingEachLetter();
        doingALetterAlone();
        generationOfLetters();
        generationOfPlace();
        generationLeastOfAClass();
        generationOfNothingElse();
        generationOfTermsThatCome();
        lateAboveLimit();
        lateAboveThreeAtFirst();
        lateByLimitZero();
        lateByLimitNine();
        roomForAll();
        roomForAllButOne();
        roomCountsEachOnce();
        roomForNone();
        roomByThen();
        roomIsNoMatterOfLateOnes();
        aheadOfTheRound();
        classesByThen();
        generationsAsToldAhead();
        eachIsDone();
        orderZero();
        orderOne();
        orderTwo();
        orderThree();
        orderThreeAtOnePlace();
        orderOfLetters();
        orderOfSixRules();
        orderOfTheFirstPlaces();
        orderOfTheLastPlaces();
        roundOfNone();
        roundChanges();
        roundLeavesAState();
        roundOfTwelveHundred();
        roundsBad();
        roundsAtMost();
        roundsByOrderAndLimit();
        roundsUntilNothingChanges();
        roundsLeaveOneState();
        lastBad();
        lastAtFirst();
        lastOfTheLastRound();
        lastTells();
        lastStays();
        stillOfNone();
        stillOfAll();
        stillChangesNothing();
        CHECK.end();
    }

    private static void due(String call, long got, long want) {
        CHECK.due(call, got, want);
    }

    // ---- doing a finding

    private static void doingPartsFirst() {
        CHECK.says("Terms", "PARTS first (the first one, what it is made of, ahead of the second one)");
        TriggerMatches x = Calls.with("a;a>h(f(b),g(h(c,b)));");
        x.round();
        String[] come = {"a", "b", "f(b)", "c", "h(c,b)", "g(h(c,b))", "h(f(b),g(h(c,b)))"};
        due("told(4)", x.told(4), come.length);
        for (int t = 0; t < come.length; t++) {
            CHECK.that(come[t] + " is TERM " + t, Calls.written(x, t).equals(come[t]));
        }
        due("it and PLACE are ALIKE", x.of(6, 4), 0);
    }

    private static void doingJustThese() {
        CHECK.says("Terms", "RIGHT comes as a TERM (as any TERM comes): not, if just it is there");
        TriggerMatches x = Calls.with("a=b;f(b);g(b);g(x)>f(x);");
        // a b f(b) g(b): f(a) comes, though f(b) is alike it
        due("round()", x.round(), 1);
        CHECK.due("f(a)", Calls.of(x, 4), 4, 0, NONE, 1, 2);
        due("told(4)", x.told(4), 5);
        due("f(b) and g(b) are ALIKE by it", x.same(2, 3), 1);
        CHECK.due("last", Calls.last(x), 1, 0, 0, 1, 1);
        due("round() again", x.round(), 0);
        due("told(4) yet", x.told(4), 5);
    }

    private static void doingLeastTerms() {
        CHECK.says("Terms", "with the least TERMS of CLASSES for LETTERS");
        TriggerMatches x = Calls.with("a;b;c;d;c=d;d=b;f(d);f(x)>g(x);");
        due("round()", x.round(), 1);
        due("g(b), not g(d)", x.of(5, 1), 1);
    }

    private static void doingEachLetter() {
        CHECK.says("Terms", "CLASSES for LETTERS: x, y, z each for its own");
        TriggerMatches x = Calls.with("h(a,h(b,c));h(x,h(y,z))>h(h(z,x),f(y));");
        due("round()", x.round(), 1);
        int last = x.told(4) - 1;
        CHECK.that("h(h(c,a),f(b))", Calls.written(x, last).equals("h(h(c,a),f(b))"));
        due("it is ALIKE h(a,h(b,c))", x.of(last, 4), 4);
        TriggerMatches y = Calls.with("h(a,b);h(z,y)>h(y,z);");
        due("round() without x", y.round(), 1);
        CHECK.that("h(b,a)", Calls.written(y, 3).equals("h(b,a)"));
    }

    private static void doingALetterAlone() {
        CHECK.says("Terms", "RIGHT comes as a TERM: a LETTER alone is there always");
        for (String letter : new String[] {"x", "y", "z"}) {
            TriggerMatches x = Calls.chain(50);
            Calls.say(x, "f(" + letter + ")>" + letter + ";");
            due("round()", x.round(), 1);
            CHECK.due("last", Calls.last(x), 49, 0, 0, 0, 1);
            due("classes()", x.classes(), 1);
        }
    }

    /** a f(a) b g(b): b of GENERATION 1, so is g(b), which is alike f(a). */
    private static TriggerMatches mixed() {
        TriggerMatches x = Calls.with("f(a);f(x)>g(b);");
        x.round();
        x.drop(0);
        return x;
    }

    private static void generationOfLetters() {
        CHECK.says("Terms", "GENERATION: 1 more than the greatest .. of its LETTERS");
        TriggerMatches x = mixed();
        x.term(6, 0, 2);
        x.term(6, 2, 0);
        Calls.say(x, "g(x)>c;f(x)>c;h(x,y)>d;");
        due("b for x", x.finding(0, 0, 4), 2);
        due("a for x", x.finding(1, 0, 4), 1);
        due("a for x, b for y", x.finding(2, 0, 4), 2);
        due("b for x, a for y", x.finding(2, 1, 4), 2);
        TriggerMatches y = mixed();
        y.term(6, 0, 0);
        y.term(6, 4, 2);
        Calls.say(y, "h(h(x,y),z)>z;");
        due("b for z", y.finding(0, 0, 4), 2);
    }

    private static void generationOfPlace() {
        CHECK.says("Terms", "GENERATION: 1 more than the greatest .. of PLACE");
        TriggerMatches x = mixed();
        Calls.say(x, "b>c;a>c;");
        due("at b", x.finding(0, 0, 4), 2);
        due("at a", x.finding(1, 0, 4), 1);
        TriggerMatches y = Calls.with("a;a>g(f(a));");
        y.round();
        Calls.say(y, "f(x)>b;");
        due("at f(a), a for x", y.finding(1, 0, 4), 2);
    }

    private static void generationLeastOfAClass() {
        CHECK.says("Terms", "that of a CLASS: the least of its TERMS");
        TriggerMatches x = mixed();
        x.term(6, 3, 3);
        Calls.say(x, "h(x,x)>c;f(x)>c;");
        due("f(a) of 0 and g(b) of 1 for x", x.finding(0, 0, 4), 1);
        due("at f(a) and g(b)", x.finding(1, 0, 4), 1);
        x.alike(2, x.term(3, 0, 0));
        Calls.say(x, "b>c;");
        due("b of 1 with d of 0, which came later", x.finding(2, 0, 4), 1);
    }

    private static void generationOfNothingElse() {
        CHECK.says("Terms", "of its LETTERS and of PLACE: not of what else LEFT and RIGHT are made of");
        TriggerMatches x = mixed();
        x.term(4, 1, 0);
        Calls.say(x, "f(g(b))>h(b,b);");
        CHECK.due("at f(f(a))", Calls.finding(x, 0, 0), NONE, NONE, NONE, 4, 1);
    }

    private static void generationOfTermsThatCome() {
        CHECK.says("Terms", "TERMS that come by it have that one");
        TriggerMatches x = mixed();
        Calls.say(x, "g(x)>h(h(a,x),c);");
        due("round()", x.round(), 1);
        // a f(a) b g(b) h(a,b) c h(h(a,b),c)
        int[] want = {0, 0, 1, 1, 2, 2, 2};
        for (int t = 0; t < want.length; t++) {
            due("GENERATION of " + t + ", those that were there keep theirs", x.of(t, 3), want[t]);
        }
        x.drop(0);
        Calls.say(x, "a>f(c);");
        due("round()", x.round(), 1);
        due("f(c)", x.of(7, 3), 1);
        due("c keeps its own, though that is greater", x.of(5, 3), 2);
    }

    // ---- late ones

    private static void lateAboveLimit() {
        CHECK.says("Terms", "It is LATE, if that is above LIMIT");
        long[][] want = {{0, 2, 0, 0, 0}, {1, 1, 0, 1, 0}, {2, 0, 0, 2, 0}, {2, 0, 0, 2, 0}};
        for (int limit = 0; limit < want.length; limit++) {
            TriggerMatches x = mixed();
            Calls.say(x, "f(x)>c;g(x)>d;");
            x.sets(1, limit);
            due("rule(0, 4) by LIMIT " + limit, x.rule(0, 4), want[limit][0] > 0 ? 1 : 0);
            due("rule(1, 4) by LIMIT " + limit, x.rule(1, 4), want[limit][0] > 1 ? 1 : 0);
            due("round() by LIMIT " + limit, x.round(), want[limit][0]);
            CHECK.due("last by LIMIT " + limit, Calls.last(x), want[limit]);
        }
    }

    private static final String ENDLESS = "f(a);f(x)>h(f(g(x)),a);";

    private static void lateAboveThreeAtFirst() {
        CHECK.says("Terms", "LIMIT (0 .. 9; 3 at first)");
        TriggerMatches x = Calls.with(ENDLESS);
        due("rounds(9)", x.rounds(9), 3);
        due("told(4)", x.told(4), 11);
        due("the last one is of GENERATION 3", x.of(10, 3), 3);
        due("one is LATE", x.last(1), 1);
        due("its GENERATION", x.finding(0, 3, 4), 4);
    }

    private static void lateByLimitZero() {
        CHECK.says("Terms", "LIMIT 0: all are LATE");
        TriggerMatches x = Calls.with(ENDLESS);
        x.sets(1, 0);
        due("round()", x.round(), 0);
        CHECK.due("last", Calls.last(x), 0, 1, 0, 0, 0);
        x.sets(1, 1);
        due("round() by LIMIT 1", x.round(), 1);
        CHECK.due("last by LIMIT 1", Calls.last(x), 1, 0, 0, 3, 0);
    }

    private static void lateByLimitNine() {
        CHECK.says("Terms", "LIMIT 9: GENERATION 9 comes, 10 never does");
        TriggerMatches x = Calls.with(ENDLESS);
        x.sets(1, 8);
        due("rounds(9) by LIMIT 8", x.rounds(9), 8);
        x.sets(1, 9);
        due("rounds(9)", x.rounds(9), 1);
        due("GENERATION of the last one", x.of(28, 3), 9);
        due("round()", x.round(), 0);
        CHECK.due("last", Calls.last(x), 9, 1, 0, 0, 0);
        due("told(4), there would be room", x.told(4), 29);
    }

    // ---- room

    private static TriggerMatches chainWith(int terms, String text) {
        TriggerMatches x = Calls.chain(terms);
        Calls.say(x, text);
        return x;
    }

    private static void roomForAll() {
        CHECK.says("Terms", "room for all TERMS that would come: just so many");
        TriggerMatches x = chainWith(47, "a>h(b,c);");
        due("still()", x.still(), 0);
        due("round()", x.round(), 1);
        CHECK.due("last", Calls.last(x), 1, 0, 0, 3, 0);
        due("told(4)", x.told(4), 50);
        due("h(b,c) is ALIKE a", x.same(49, 0), 1);
    }

    private static void roomForAllButOne() {
        CHECK.says("Terms", "If there is no room for all TERMS that would come, it is left (none comes)");
        TriggerMatches x = chainWith(48, "a>h(b,c);");
        due("still()", x.still(), 1);
        due("round()", x.round(), 0);
        CHECK.due("last", Calls.last(x), 0, 0, 1, 0, 0);
        due("told(4)", x.told(4), 48);
        due("classes()", x.classes(), 48);
        due("b would be the next one yet", x.term(1, 0, 0), 48);
        due("then there is room for one, not for two", x.round(), 0);
        CHECK.due("last then", Calls.last(x), 0, 0, 1, 0, 0);
        due("told(4) then", x.told(4), 49);
    }

    private static void roomCountsEachOnce() {
        CHECK.says("Terms", "all TERMS that would come: each once, none that is there");
        TriggerMatches x = chainWith(48, "f(f(a))>h(f(h(b,b)),f(h(b,b)));a>h(b,b);");
        due("four are too many, two are not", x.round(), 1);
        CHECK.due("last", Calls.last(x), 1, 0, 1, 2, 0);
        due("told(4)", x.told(4), 50);
        TriggerMatches y = chainWith(49, "a>g(f(f(a)));");
        due("one comes, others are there", y.round(), 1);
        CHECK.due("last", Calls.last(y), 1, 0, 0, 1, 0);
    }

    private static void roomForNone() {
        CHECK.says("Terms", "no room: what needs none is DONE");
        TriggerMatches x = chainWith(50, "a>g(a);a>f(f(a));f(x)>g(x);f(f(a))>a;");
        due("still()", x.still(), 0);
        due("round()", x.round(), 1);
        CHECK.due("last", Calls.last(x), 2, 0, 50, 0, 1);
        due("f(f(a)) is ALIKE a", x.same(0, 2), 1);
        due("classes()", x.classes(), 2);
        due("still() then", x.still(), 1);
    }

    private static void roomByThen() {
        CHECK.says("Terms", "DONE, one by one: what came takes the room, what is left takes none");
        TriggerMatches x = chainWith(49, "a>h(b,b);a>f(b);a>c;a>d;a>c;");
        due("round()", x.round(), 1);
        CHECK.due("last", Calls.last(x), 2, 0, 3, 1, 0);
        due("c came", x.of(49, 0), 2);
        x.back();
        x.sets(0, 2);
        due("round() from the last RULE back", x.round(), 1);
        CHECK.due("last", Calls.last(x), 2, 0, 3, 1, 0);
        due("c came, as RULE 4 is ahead of RULE 3", x.of(49, 0), 2);
    }

    private static void roomIsNoMatterOfLateOnes() {
        CHECK.says("Promise 15", "LATE ones (1), left for want of room (2): a LATE one is not left");
        TriggerMatches x = chainWith(50, "a>b;a>f(a);");
        x.sets(1, 0);
        due("round()", x.round(), 0);
        CHECK.due("last", Calls.last(x), 0, 2, 0, 0, 0);
        x.sets(1, 1);
        due("round() by LIMIT 1", x.round(), 1);
        CHECK.due("last by LIMIT 1", Calls.last(x), 1, 0, 1, 0, 1);
    }

    // ---- a round

    private static void aheadOfTheRound() {
        CHECK.says("Terms", "all FINDINGS of all RULES, as CLASSES are ahead");
        TriggerMatches x = Calls.with("f(a);f(x)>g(x);g(x)>b;");
        due("round()", x.round(), 1);
        CHECK.due("g(a) is not found by the same ROUND", Calls.last(x), 1, 0, 0, 1, 0);
        due("the next one", x.round(), 1);
        CHECK.due("last", Calls.last(x), 2, 0, 0, 1, 0);
        TriggerMatches y = Calls.with("a;f(b);a>b;f(a)>c;");
        due("f(a) stands only behind a > b", y.round(), 1);
        CHECK.due("last", Calls.last(y), 1, 0, 0, 0, 1);
    }

    private static void classesByThen() {
        CHECK.says("Terms", "CLASSES by then being those in which their least TERMS are");
        TriggerMatches x = Calls.with("a;f(b);b>a;f(x)>g(x);");
        due("round()", x.round(), 2);
        due("g(a): b is in the CLASS of a by then", x.of(3, 1), 0);
        x.back();
        x.sets(0, 2);
        due("round() from the last RULE back", x.round(), 2);
        due("g(b): it is not yet", x.of(3, 1), 1);
        TriggerMatches y = Calls.with("a;b;c;c>b;b>a;c>d;");
        due("PLACE c is in the CLASS of a by then", y.round(), 3);
        due("d", y.of(3, 4), 0);
    }

    private static void generationsAsToldAhead() {
        CHECK.says("Terms", "GENERATIONS as told ahead");
        TriggerMatches x = Calls.with("f(a);f(x)>g(h(a,a));");
        x.round();
        x.drop(0);
        // a f(a) h(a,a) g(h(a,a)), the last two of GENERATION 1
        Calls.say(x, "a>h(a,a);g(x)>d;");
        due("round()", x.round(), 2);
        due("h(a,a) is ALIKE a by then", x.same(0, 2), 1);
        due("d of GENERATION 2 all the same", x.of(4, 3), 2);
        x.back();
        x.sets(1, 1);
        due("round() by LIMIT 1", x.round(), 1);
        CHECK.due("LATE all the same", Calls.last(x), 1, 1, 0, 0, 1);
        due("the next ROUND", x.round(), 1);
        due("d of GENERATION 1", x.of(4, 3), 1);
    }

    private static void eachIsDone() {
        CHECK.says("Terms", "all FINDINGS .. are DONE: those that are one by then, too");
        TriggerMatches x = Calls.with("f(a);f(b);a>b;f(x)>c;");
        due("round()", x.round(), 2);
        CHECK.due("last", Calls.last(x), 3, 0, 0, 1, 1);
    }

    // ---- THE ORDER

    /** What came from a TERM on, all by h: its PARTS as two digits. */
    private static long[] cameByH(TriggerMatches x, int from) {
        long[] parts = new long[Math.max(0, x.told(4) - from)];
        for (int i = 0; i < parts.length; i++) {
            parts[i] = 10 * x.of(from + i, 1) + x.of(from + i, 2);
        }
        return parts;
    }

    /** Two RULES, each with two FINDINGS of GENERATION 1. */
    private static void sameGenerations(int order, long... want) {
        TriggerMatches x = Calls.with("b;f(b);f(a);g(a);g(b);g(x)>h(x,b);f(x)>h(x,a);");
        // b f(b) a f(a) g(a) g(b); PLACES of RULE 0: 5, 4, of RULE 1: 1, 3
        x.sets(0, order);
        due("round() by THE ORDER " + order, x.round(), 4);
        CHECK.due("by THE ORDER " + order, cameByH(x, 6), want);
    }

    /** Two RULES, each with a FINDING of GENERATION 2 ahead of one of 1. */
    private static void unlikeGenerations(int order, long... want) {
        TriggerMatches x = Calls.with("d;d>f(b);");
        x.round();
        x.drop(0);
        x.term(0, 0, 0);
        x.term(4, 3, 0);
        x.term(5, 1, 0);
        x.term(5, 3, 0);
        // d b f(b) a f(a) g(b) g(a); b is of GENERATION 1; PLACES of RULE 0: 5, 6, of RULE 1: 0, 4
        Calls.say(x, "g(x)>h(x,d);f(x)>h(d,x);");
        due("GENERATION of RULE 0's first one", x.finding(0, 0, 4), 2);
        due("GENERATION of RULE 0's second one", x.finding(0, 1, 4), 1);
        x.sets(0, order);
        due("round() by THE ORDER " + order, x.round(), 4);
        CHECK.due("by THE ORDER " + order, cameByH(x, 7), want);
    }

    private static void orderZero() {
        CHECK.says("Terms", "THE ORDER: 0 by RULES, then as they come");
        sameGenerations(0, 0, 20, 2, 22);
        unlikeGenerations(0, 10, 30, 1, 3);
    }

    private static void orderOne() {
        CHECK.says("Terms", "THE ORDER: 1 by GENERATION, then so");
        sameGenerations(1, 0, 20, 2, 22);
        unlikeGenerations(1, 30, 3, 10, 1);
    }

    private static void orderTwo() {
        CHECK.says("Terms", "THE ORDER: 2 by RULES from the last one back, then as they come");
        sameGenerations(2, 2, 22, 0, 20);
        unlikeGenerations(2, 1, 3, 10, 30);
    }

    private static void orderThree() {
        CHECK.says("Terms", "THE ORDER: 3 by PLACE, then by RULES, then as they come");
        sameGenerations(3, 2, 22, 20, 0);
        unlikeGenerations(3, 1, 3, 10, 30);
    }

    private static void orderThreeAtOnePlace() {
        CHECK.says("Terms", "THE ORDER: 3 at one PLACE, by RULES, then as they come");
        TriggerMatches x = Calls.with("f(b)=f(a);f(x)>h(x,b);f(x)>h(x,a);");
        // b f(b) a f(a)
        x.sets(0, 3);
        due("round()", x.round(), 4);
        CHECK.due("came", cameByH(x, 4), 0, 20, 2, 22);
    }

    private static void orderOfLetters() {
        CHECK.says("Terms", "THE ORDER: then as they come, by x's CLASS, then y's, then z's");
        // a b c h(b,a) h(a,c) h(a,b): x's and y's CLASSES and PLACE go each another way
        long[][] want = {{1, 2, 10}, {1, 2, 10}, {1, 2, 10}, {10, 2, 1}};
        for (int order = 0; order <= 3; order++) {
            TriggerMatches x = Calls.with("a;b;c;h(b,a);h(a,c);h(a,b);h(x,y)>g(h(x,h(y,y)));");
            x.sets(0, order);
            due("round() by THE ORDER " + order, x.round(), 3);
            long[] got = new long[3];
            int n = 0;
            for (int t = 6; t < x.told(4); t++) {
                // h(y,y) comes ahead of h(x,h(y,y)), which is a PART of g
                if (x.of(t, 0) == 5 && n < got.length) {
                    int h = x.of(t, 1);
                    got[n] = 10 * x.of(h, 1) + x.of(x.of(h, 2), 1);
                    n++;
                }
            }
            due("how many came by THE ORDER " + order, n, 3);
            CHECK.due("x and y by THE ORDER " + order, got, want[order]);
        }
        TriggerMatches z = Calls.with("h(a,h(a,b));h(a,h(a,a));h(x,h(y,z))>f(z);");
        due("round() by z at last", z.round(), 2);
        due("f(a) ahead of f(b)", z.of(z.told(4) - 2, 1), 0);
    }

    private static void orderOfSixRules() {
        CHECK.says("Terms", "THE ORDER: RULES 0 .. 5, from the last one back");
        // by each RULE one TERM comes, of another SIGN
        int[] signs = {0, 1, 2, 4, 5, 6};
        for (int order = 0; order <= 3; order++) {
            TriggerMatches x = Calls.with("d;d>a;d>b;d>c;d>f(d);d>g(d);d>h(d,d);");
            x.sets(0, order);
            due("round()", x.round(), 6);
            for (int r = 0; r < 6; r++) {
                due("by THE ORDER " + order + ", RULE " + r, x.of(order == 2 ? 6 - r : 1 + r, 0), signs[r]);
            }
        }
    }

    private static void orderOfTheFirstPlaces() {
        CHECK.says("Terms", "THE ORDER: 3 by PLACE: 0 ahead of 1");
        TriggerMatches x = Calls.with("a;b;c;c>f(c);b>f(b);a>f(a);");
        x.sets(0, 3);
        due("round()", x.round(), 3);
        for (int place = 0; place < 3; place++) {
            due("at PLACE " + place, x.of(3 + place, 1), place);
        }
    }

    private static void orderOfTheLastPlaces() {
        CHECK.says("Terms", "THE ORDER: 3 by PLACE: 48 ahead of 49");
        TriggerMatches x = Calls.chain(48);
        x.term(1, 0, 0);
        x.term(5, 48, 0);
        Calls.say(x, "g(x)>f(x);b>a;");
        // g(b), 49, needs f(b), for which there is no room, or f(a), if b, 48, is ALIKE a by then
        due("round() by THE ORDER 0", x.round(), 1);
        CHECK.due("last by THE ORDER 0", Calls.last(x), 1, 0, 1, 0, 1);
        x.back();
        x.sets(0, 3);
        due("round() by THE ORDER 3", x.round(), 2);
        CHECK.due("last by THE ORDER 3", Calls.last(x), 2, 0, 0, 0, 2);
    }

    // ---- promise 13

    private static void roundOfNone() {
        CHECK.says("Promise 13", "how many FINDINGS .. changed anything: none. S");
        TriggerMatches x = new TriggerMatches();
        due("round() of nothing at all", x.round(), 0);
        due("told(8)", x.told(8), 1);
        Calls.say(x, "a;");
        BOUNDS.leaves(x, "round() without RULES", x::round, 0);
        Calls.say(x, "f(x)>x;");
        BOUNDS.leaves(x, "round() without FINDINGS", x::round, 0);
        CHECK.due("last", Calls.last(x), 0, 0, 0, 0, 0);
    }

    private static void roundChanges() {
        CHECK.says("Promise 13", "a TERM came, or TERMS that were there became ALIKE that were not");
        TriggerMatches x = Calls.with("a;a>b;");
        due("a TERM came", x.round(), 1);
        due("DONE again, nothing changes", x.round(), 0);
        CHECK.due("last", Calls.last(x), 1, 0, 0, 0, 0);
        TriggerMatches y = Calls.with("a;b;a>b;");
        due("TERMS became ALIKE", y.round(), 1);
        TriggerMatches z = Calls.with("a=b;f(b);g(b);g(x)>f(x);");
        due("both: counted once", z.round(), 1);
        TriggerMatches w = Calls.with("a=b;a>b;b>a;f(a);f(x)>f(x);");
        due("TERMS that were ALIKE", w.round(), 0);
        CHECK.due("last", Calls.last(w), 3, 0, 0, 0, 0);
        TriggerMatches v = Calls.with("a;b;c;a>b;b>c;c>a;");
        due("the third one changes nothing by then", v.round(), 2);
    }

    private static void roundLeavesAState() {
        CHECK.says("Promise 13", "S");
        TriggerMatches x = Calls.with("f(a);b;f(x)>g(x);a>b;");
        BOUNDS.leaves(x, "round()", x::round, 2);
        due("told(4)", x.told(4), 4);
    }

    private static void roundOfTwelveHundred() {
        CHECK.says("Terms", "A ROUND: all FINDINGS of all RULES, 200 of each of 6 at most");
        TriggerMatches x = Calls.with(
                "f(a)=f(b);f(b)=f(c);f(c)=f(d);f(d)=f(h(a,a));g(a)=g(b);g(a)=g(c);g(a)=g(d);",
                "g(a)=g(h(a,a));g(a)=g(h(a,b));g(a)=g(h(a,c));g(a)=g(h(a,d));h(f(a),h(f(a),g(a)));",
                "h(f(x),h(f(y),g(z)))>d;h(f(z),h(f(y),g(x)))>d;h(f(y),h(f(x),g(z)))>c;");
        Calls.say(x, "h(f(z),h(f(x),g(y)))>c;h(f(x),h(f(z),g(y)))>b;h(f(y),h(f(z),g(x)))>b;");
        due("told(5)", x.told(5), 6);
        x.sets(0, 2);
        due("round()", x.round(), 3);
        CHECK.due("last", Calls.last(x), 1200, 0, 0, 0, 3);
        x.back();
        x.sets(1, 0);
        due("round() by LIMIT 0", x.round(), 0);
        CHECK.due("last by LIMIT 0", Calls.last(x), 0, 1200, 0, 0, 0);
    }

    // ---- promise 14

    private static void roundsBad() {
        CHECK.says("Promise 14", "n (1 .. 9). BAD");
        TriggerMatches x = Calls.with("a;a>b;");
        BOUNDS.bad(x, "rounds(0)", () -> x.rounds(0));
        BOUNDS.bad(x, "rounds(10)", () -> x.rounds(10));
        BOUNDS.bad(x, "rounds(-1)", () -> x.rounds(-1));
        BOUNDS.bad(x, "rounds(LEAST)", () -> x.rounds(LEAST));
        BOUNDS.bad(x, "rounds(MOST)", () -> x.rounds(MOST));
        due("rounds(1)", x.rounds(1), 1);
        due("rounds(9)", x.rounds(9), 0);
    }

    /** By each ROUND one more of p1 = h(d,g(a)), p2 = h(p1,g(g(a))), .. is ALIKE d. */
    private static TriggerMatches staircase(int steps) {
        TriggerMatches x = Calls.with("d;a;h(d,x)>d;");
        int p = 0;
        int s = 1;
        for (int i = 0; i < steps; i++) {
            s = x.term(5, s, 0);
            p = x.term(6, p, s);
        }
        return x;
    }

    private static void roundsAtMost() {
        CHECK.says("Promise 14", "n at most: by how many anything changed");
        TriggerMatches x = staircase(12);
        due("classes()", x.classes(), 26);
        for (int n = 1; n <= 9; n++) {
            due("rounds(" + n + ")", x.rounds(n), n);
            due("classes() behind it", x.classes(), 26 - n);
            due("the last one was the " + n + "th", x.last(0), n);
            due("it changed", x.last(4), 1);
            x.back();
        }
        due("rounds(9)", x.rounds(9), 9);
        due("still()", x.still(), 0);
        due("rounds(9) again: the rest", x.rounds(9), 3);
        due("still() then", x.still(), 1);
        TriggerMatches y = Calls.with("a;b;a>c;b>d;");
        due("one ROUND, though two FINDINGS changed anything by it", y.rounds(9), 1);
    }

    private static void roundsByOrderAndLimit() {
        CHECK.says("Promise 14", "ROUNDS: by THE ORDER, none that are LATE");
        TriggerMatches x = Calls.with("a;f(b);b>a;f(x)>g(x);");
        due("rounds(1)", x.rounds(1), 1);
        due("g(a), as RULE 0 goes first", x.of(3, 1), 0);
        x.back();
        x.sets(0, 2);
        due("rounds(1) from the last RULE back", x.rounds(1), 1);
        due("g(b)", x.of(3, 1), 1);
        TriggerMatches y = Calls.with(ENDLESS);
        for (int limit = 0; limit <= 5; limit++) {
            y.sets(1, limit);
            due("rounds(9) by LIMIT " + limit, y.rounds(9), limit == 0 ? 0 : 1);
            due("LATE ones", y.last(1), 1);
        }
    }

    private static void roundsUntilNothingChanges() {
        CHECK.says("Promise 14", "ROUNDS, until by one nothing changes");
        TriggerMatches x = staircase(3);
        due("rounds(3): the last one changed", x.rounds(3), 3);
        CHECK.due("last", Calls.last(x), 3, 0, 0, 0, 1);
        x.back();
        due("rounds(4): one more, by which nothing changes", x.rounds(4), 3);
        CHECK.due("last is that of this one", Calls.last(x), 3, 0, 0, 0, 0);
        due("rounds(9)", x.rounds(9), 0);
        TriggerMatches y = staircase(9);
        due("rounds(9) of nine", y.rounds(9), 9);
        CHECK.due("last", Calls.last(y), 9, 0, 0, 0, 1);
        TriggerMatches z = staircase(8);
        due("rounds(9) of eight", z.rounds(9), 8);
        CHECK.due("last", Calls.last(z), 8, 0, 0, 0, 0);
    }

    private static void roundsLeaveOneState() {
        CHECK.says("Promise 14", "S (one)");
        TriggerMatches x = Calls.with("f(a);f(x)>h(f(g(x)),a);");
        BOUNDS.leaves(x, "rounds(3)", () -> x.rounds(3), 3);
        BOUNDS.leaves(x, "rounds(9), by which nothing changes", () -> x.rounds(9), 0);
        due("told(8)", x.told(8), 3);
        TriggerMatches y = new TriggerMatches();
        due("rounds(1) of nothing at all", y.rounds(1), 0);
        due("told(8)", y.told(8), 1);
    }

    // ---- promise 15

    private static void lastBad() {
        CHECK.says("Promise 15", "0 .. 4. BAD");
        TriggerMatches x = Calls.with("a;a>b;");
        x.round();
        BOUNDS.bad(x, "last(-1)", () -> x.last(-1));
        BOUNDS.bad(x, "last(5)", () -> x.last(5));
        BOUNDS.bad(x, "last(LEAST)", () -> x.last(LEAST));
        BOUNDS.bad(x, "last(MOST)", () -> x.last(MOST));
        BOUNDS.asks(x, "last(0)", () -> x.last(0), 1);
        BOUNDS.asks(x, "last(4)", () -> x.last(4), 0);
    }

    private static void lastAtFirst() {
        CHECK.says("Promise 15", "All 0 at first");
        TriggerMatches x = new TriggerMatches();
        CHECK.due("last", Calls.last(x), 0, 0, 0, 0, 0);
        Calls.say(x, "a;a>b;");
        x.rounds(0);
        x.still();
        CHECK.due("last, as there was no ROUND yet", Calls.last(x), 0, 0, 0, 0, 0);
    }

    private static void lastOfTheLastRound() {
        CHECK.says("Promise 15", "Of the last ROUND: each by itself");
        TriggerMatches x = Calls.with("a;b;a>c;b>f(d);");
        x.round();
        CHECK.due("last", Calls.last(x), 2, 0, 0, 3, 0);
        x.drop(0);
        x.round();
        CHECK.due("last of the next one", Calls.last(x), 1, 0, 0, 0, 0);
        x.drop(0);
        x.round();
        CHECK.due("last of one without RULES", Calls.last(x), 0, 0, 0, 0, 0);
    }

    private static void lastTells() {
        CHECK.says("Promise 15", "FINDINGS DONE, LATE ones, left for want of room, TERMS that came, DONE ones by which"
                + " TERMS that were there ahead of it became ALIKE");
        TriggerMatches x = mixed();
        // a f(a) b g(b) c f(c) f(f(c)) ..: 46 TERMS
        x.term(2, 0, 0);
        for (int t = 5; t < 46; t++) {
            x.term(4, t - 1, 0);
        }
        Calls.say(x, "g(x)>d;b>d;a>h(d,h(d,d));b>a;a>g(c);c>h(h(c,c),g(a));");
        x.sets(1, 1);
        due("round()", x.round(), 2);
        CHECK.due("a > h(d,h(d,d)), a > g(c); three LATE; one left", Calls.last(x), 2, 3, 1, 4, 0);
        x.drop(5);
        x.drop(4);
        x.sets(1, 2);
        due("round() by LIMIT 2", x.round(), 3);
        CHECK.due("by g(x) > d, twice, and b > d", Calls.last(x), 5, 0, 0, 0, 3);
    }

    private static void lastStays() {
        CHECK.says("Promise 15", "Of the last ROUND: other calls leave it");
        TriggerMatches x = Calls.with("f(a);b;f(x)>c;a>b;");
        x.round();
        x.still();
        x.term(3, 0, 0);
        x.alike(0, 1);
        Calls.say(x, "g(a);");
        Calls.say(x, "g(a)!");
        x.drop(0);
        x.sets(1, 0);
        x.back();
        x.anew();
        CHECK.due("last", Calls.last(x), 2, 0, 0, 1, 1);
    }

    // ---- promise 16

    private static void stillOfNone() {
        CHECK.says("Promise 16", "nothing would change by a ROUND: 1");
        TriggerMatches x = new TriggerMatches();
        BOUNDS.asks(x, "still() of nothing at all", x::still, 1);
        Calls.say(x, "f(a);");
        BOUNDS.asks(x, "still() without RULES", x::still, 1);
        Calls.say(x, "g(x)>x;");
        BOUNDS.asks(x, "still() without FINDINGS", x::still, 1);
        Calls.say(x, "f(a)=b;f(x)>b;");
        BOUNDS.asks(x, "still(), as all that is so", x::still, 1);
        Calls.say(x, "f(x)>d;");
        x.sets(1, 0);
        BOUNDS.asks(x, "still(), as all are LATE", x::still, 1);
        TriggerMatches y = chainWith(49, "f(x)>g(g(x));");
        BOUNDS.asks(y, "still(), as there is no room", y::still, 1);
    }

    private static void stillOfAll() {
        CHECK.says("Promise 16", "anything would change by a ROUND: 0");
        TriggerMatches x = Calls.with("a;c;a>b;");
        BOUNDS.asks(x, "still(), a TERM would come", x::still, 0);
        x.drop(0);
        Calls.say(x, "a>c;");
        BOUNDS.asks(x, "still(), TERMS would become ALIKE", x::still, 0);
        TriggerMatches y = chainWith(49, "f(x)>g(g(x));a>a;a>b;");
        BOUNDS.asks(y, "still(), others are left, the last one is not", y::still, 0);
        due("round()", y.round(), 1);
        TriggerMatches z = chainWith(50, "a>b;f(a)>a;");
        BOUNDS.asks(z, "still(), no room is needed", z::still, 0);
        TriggerMatches w = mixed();
        Calls.say(w, "g(x)>d;f(x)>c;");
        w.sets(1, 1);
        BOUNDS.asks(w, "still(), one is LATE, the other is not", w::still, 0);
        w.drop(1);
        BOUNDS.asks(w, "still(), the LATE one alone", w::still, 1);
    }

    private static void stillChangesNothing() {
        CHECK.says("Promise 16", "Whether it would: nothing does, no STATE is left");
        TriggerMatches x = Calls.with("f(a);f(x)>h(g(x),b);");
        for (int i = 0; i < 3; i++) {
            BOUNDS.asks(x, "still()", x::still, 0);
        }
        due("told(4)", x.told(4), 2);
        due("told(8)", x.told(8), 1);
        due("round()", x.round(), 1);
        due("g(a) came just now", x.of(2, 0), 5);
    }
}
