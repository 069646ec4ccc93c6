/** Promises 17 to 23: type, clear, reads, writing, back, told, digest. */
public final class TextsTest {
    private static final int NONE = TriggerMatches.NONE, BAD = TriggerMatches.BAD;
    private static final int NO = TriggerMatches.NO, FULL = TriggerMatches.FULL;
    private static final Check CHECK = new Check("TextsTest");

    public static void main(String[] args) {
        typeAndClear();
        readsSentences();
        readsGenerations();
        readsBlanks();
        readsFaultsOfForm();
        readsFaultsOfLetters();
        readsFaultsOfRoom();
        readsNothingByAFault();
        readsDeep();
        writingOut();
        writingLong();
        backTakesBack();
        backAtMostEight();
        toldTellsEach();
        digestGoesOverAll();
        CHECK.end();
    }

    private static void due(String call, long got, long want) {
        CHECK.due(call, got, want);
    }

    private static void fault(TriggerMatches x, String text, int place) {
        due("'" + text + "'", Calls.say(x, text), -10 - place);
    }

    private static void typeAndClear() {
        TriggerMatches x = new TriggerMatches();
        due("-1", x.type(-1), BAD);
        due("128", x.type(128), BAD);
        due("0", x.type(0), 1);
        due("127", x.type(127), 2);
        due("clear", x.clear(), 2);
        due("clear again", x.clear(), 0);
        for (int n = 1; n <= 120; n++) {
            due("type", x.type(' '), n);
        }
        due("full", x.type(' '), FULL);
        due("bad ahead of full", x.type(128), BAD);
        due("bytes", x.told(3), 120);
        due("clear all", x.clear(), 120);
        due("room again", x.type('a'), 1);
        CHECK.due("refusals", Calls.refusals(x), 3, 0, 1);
        due("no state by these", x.told(8), 0);
    }

    private static void readsSentences() {
        TriggerMatches x = new TriggerMatches();
        due("three", Calls.say(x, "h(f(b),a);f(a)=g(b);g(x)>x;"), 3);
        // b f(b) a h(f(b),a) f(a) g(b)
        due("b", x.of(0, 0), 1);
        due("f(b)", x.of(1, 1), 0);
        due("a", x.of(2, 0), 0);
        due("h", x.of(3, 0), 6);
        due("f(a)", x.of(4, 1), 2);
        due("g(b)", x.of(5, 1), 0);
        due("f(a) = g(b)", x.same(4, 5), 1);
        due("terms", x.told(4), 6);
        due("rules", x.told(5), 1);
        due("one state", x.told(8), 1);
        due("the text stays", x.told(3), 27);
        due("the same again", x.reads(), 3);
        due("no new terms", x.told(4), 6);
        due("but a rule", x.told(5), 2);
        due("and a state", x.told(8), 2);
        due("by congruence too", Calls.say(x, "a=b;f(a)=c;f(b)=d;"), 3);
        due("c = d", x.same(6, 7), 1);
    }

    private static void readsGenerations() {
        TriggerMatches x = Calls.with("f(a);f(x)>h(g(x),g(b));");
        x.round();
        // a f(a) g(a) b g(b) h(g(a),g(b)), the last four of generation 1
        due("h", x.of(5, 3), 1);
        Calls.say(x, "g(b);");
        due("g(b) of generation 0 then", x.of(4, 3), 0);
        due("what it is made of, too", x.of(3, 3), 0);
        due("not others", x.of(2, 3), 1);
        Calls.say(x, "d=h(g(a),g(b));");
        due("g(a)", x.of(2, 3), 0);
        due("h", x.of(5, 3), 0);
        due("back", x.back(), 3);
        due("h as ahead", x.of(5, 3), 1);
    }

    private static void readsBlanks() {
        TriggerMatches x = new TriggerMatches();
        due("blanks anywhere", Calls.say(x, "  h ( a , f( b ) ) =  c ;  f ( x )>x ; "), 2);
        due("terms", x.told(4), 5);
        fault(x, "", 0);
        fault(x, "   ", 3);
        fault(x, "a; b ", 5);
        fault(x, "a b;", 2);
        fault(x, "a;\tb;", 2);
    }

    private static void readsFaultsOfForm() {
        TriggerMatches x = new TriggerMatches();
        fault(x, ";", 0);
        fault(x, "a", 1);
        fault(x, "a;;", 2);
        fault(x, "e;", 0);
        fault(x, "A;", 0);
        fault(x, "w;", 0);
        fault(x, "{;", 0);
        fault(x, "i(a);", 0);
        fault(x, "f;", 1);
        fault(x, "f a;", 2);
        fault(x, "f(", 2);
        fault(x, "f(a", 3);
        fault(x, "f();", 2);
        fault(x, "f(a,b);", 3);
        fault(x, "f(a));", 4);
        fault(x, "h(a);", 3);
        fault(x, "h(a,);", 4);
        fault(x, "h(,a);", 2);
        fault(x, "h(a,b,c);", 5);
        fault(x, "h(f(a),g(b);", 11);
        fault(x, "a(b);", 1);
        fault(x, "x(b);", 1);
        fault(x, "a=b=c;", 3);
        fault(x, "a=;", 2);
        fault(x, "=a;", 0);
        fault(x, "a>b>c;", 3);
        fault(x, "a>b=c;", 3);
        fault(x, "a=b>c;", 3);
        fault(x, "a>;", 2);
        fault(x, "a>b", 3);
        fault(x, "a=", 2);
        fault(x, "a;b;c;d;f", 9);
        fault(x, "\u007f", 0);
        due("nothing was done by any", x.told(4) + x.told(5) + x.told(8), 0);
        CHECK.due("nor counted", Calls.refusals(x), 0, 0, 0);
    }

    private static void readsFaultsOfLetters() {
        TriggerMatches x = new TriggerMatches();
        fault(x, "x;", 1);
        fault(x, "h(a,f(y)) ;", 10);
        fault(x, "f(x)=a;", 4);
        fault(x, "x = a;", 2);
        fault(x, "a=x;", 3);
        fault(x, "a=f(x) ;", 7);
        fault(x, "a=f(x)>b;", 6);
        fault(x, "x>a;", 1);
        fault(x, "z >z;", 2);
        fault(x, "f(x)>y;", 5);
        fault(x, "f(x)>h(x,g(z));", 11);
        fault(x, "a>x;", 2);
        fault(x, "f(x)", 4);
        fault(x, "x", 1);
        due("letters of LEFT may be left out", Calls.say(x, "h(x,h(y,z))>y;f(x)>a;"), 2);
        due("a rule of no letters", Calls.say(x, "f(a)>b;"), 1);
    }

    private static void readsFaultsOfRoom() {
        TriggerMatches x = Calls.with("a>a;b>b;c>c;", "f(x)>x;g(x)>x;");
        fault(x, "h(x,y)>x;a>b;", 10);
        fault(x, "a;d>a;d >a;", 8);
        due("the 6th one", Calls.say(x, "h(x,y)>x;"), 1);
        fault(x, "a>b;", 1);
        fault(x, "x>b;", 1);
        fault(x, "a;a>b;", 3);
        due("terms yet", Calls.say(x, "a;"), 1);

        TriggerMatches y = new TriggerMatches();
        y.term(0, 0, 0);
        for (int t = 1; t < 48; t++) {
            y.term(4, t - 1, 0);
        }
        fault(y, "b;c;d;", 5);
        fault(y, "h(b,c);", 6);
        fault(y, "b=h(a,b) ;c;", 11);
        fault(y, "b;h(a,b)=c ;", 11);
        fault(y, "h(b,c)", 6);
        fault(y, "h(b,c)=x;", 8);
        due("terms yet", y.told(4), 48);
        due("two more", Calls.say(y, "b;g(b)=b;f(a);a>d;"), 4);
        fault(y, "a;d;", 3);
        due("what is there comes no more", Calls.say(y, "g(b)=a;"), 1);
        CHECK.due("refusals", Calls.refusals(y), 0, 0, 0);
    }

    private static void readsNothingByAFault() {
        TriggerMatches x = Calls.with("f(a);f(x)>g(b);");
        x.round();
        long ahead = x.digest();
        fault(x, "g(b)=a;c;b=a;d!", 14);
        due("all as ahead, generations too", x.digest(), ahead);
        due("findings as ahead", x.finding(0, 0, 3), 1);
    }

    private static void readsDeep() {
        TriggerMatches x = new TriggerMatches();
        StringBuilder text = new StringBuilder();
        for (int i = 0; i < 60; i++) {
            text.append("f(");
        }
        fault(x, text.toString(), 120);
        text.setLength(0);
        for (int i = 0; i < 39; i++) {
            text.append("g(");
        }
        text.append('a');
        for (int i = 0; i < 39; i++) {
            text.append(')');
        }
        text.append(';');
        due("as deep as can be", Calls.say(x, text.toString()), 1);
        due("terms", x.told(4), 40);
        due("written again", x.writing(39, NONE), 118);
    }

    private static void writingOut() {
        TriggerMatches x = Calls.with("h(f(a),g(h(b,c)));f(d);");
        CHECK.that("h", Calls.written(x, 6).equals("h(f(a),g(h(b,c)))"));
        CHECK.that("a", Calls.written(x, 0).equals("a"));
        CHECK.that("f(d)", Calls.written(x, 8).equals("f(d)"));
        due("length", x.writing(8, NONE), 4);
        due("the last byte", x.writing(8, 3), ')');
        due("behind it", x.writing(8, 4), -5);
        due("far behind it", x.writing(8, Integer.MAX_VALUE), -5);
        CHECK.due("refusals", Calls.refusals(x), 0, 0, 0);
        due("k -2", x.writing(0, -2), -10);
        due("term 9", x.writing(9, 0), -10);
        due("term -1", x.writing(-1, NONE), -10);
        CHECK.due("refusals then", Calls.refusals(x), 3, 0, 0);
        x.alike(8, 0);
        CHECK.that("as it is, not as one alike", Calls.written(x, 8).equals("f(d)"));
    }

    private static void writingLong() {
        TriggerMatches x = new TriggerMatches();
        x.term(0, 0, 0);
        for (int t = 1; t < 50; t++) {
            x.term(6, t - 1, t - 1);
        }
        due("h^5: 5 bytes a sign less 4", x.writing(5, NONE), 156);
        due("h^6 is too long", x.writing(6, NONE), 300);
        due("its last byte that is told", x.writing(6, 299), writtenOut(6).charAt(299));
        due("the rest is left out", x.writing(6, 300), -5);
        CHECK.that("h^6", Calls.written(x, 6).equals(writtenOut(6).substring(0, 300)));
        due("h^49", x.writing(49, NONE), 300);
        due("its 97th byte", x.writing(49, 97), '(');
        due("its 98th byte", x.writing(49, 98), 'a');
    }

    private static String writtenOut(int depth) {
        String out = "a";
        for (int i = 0; i < depth; i++) {
            out = "h(" + out + "," + out + ")";
        }
        return out;
    }

    private static void backTakesBack() {
        TriggerMatches x = new TriggerMatches();
        due("none", x.back(), NO);
        due("counted", x.told(1), 1);
        x.term(0, 0, 0);
        x.term(4, 0, 0);
        x.alike(0, 1);
        Calls.say(x, "f(x)>b;");
        x.sets(0, 2);
        x.sets(1, 5);
        x.round();
        x.drop(0);
        due("the drop", x.back(), 5);
        due("a rule", x.told(5), 1);
        due("it finds", x.rule(0, 3), 1);
        due("the round", x.back(), 4);
        due("no b", x.told(4), 2);
        due("the reading", x.back(), 3);
        due("no rule", x.told(5), 0);
        due("alike", x.back(), 2);
        due("two classes", x.classes(), 2);
        due("f(a)", x.back(), 1);
        due("a", x.back(), 0);
        due("no terms", x.told(4), 0);
        due("none left", x.back(), NO);
        due("the text is not taken back", x.told(3), 7);
        due("nor the order", x.told(6), 2);
        due("nor the limit", x.told(7), 5);
        due("nor last", x.last(0), 1);
        CHECK.due("nor refusals", Calls.refusals(x), 0, 2, 0);
        due("a new state behind it", x.term(2, 0, 0), 0);
        due("states", x.told(8), 1);
        backBringsAllOfThem();
    }

    /** Signs, parts and rules come back where others have been meanwhile. */
    private static void backBringsAllOfThem() {
        TriggerMatches x = Calls.with("a;b;h(a,b);f(x)>a;g(g(x))>b;");
        long ahead = x.digest();
        x.drop(0);
        x.anew();
        Calls.say(x, "c;d;h(d,c);g(c)=d;");
        Calls.say(x, "h(x,y)>f(f(x));");
        x.round();
        Calls.put(x, "a;b;h(a,b);f(x)>a;g(g(x))>b;");
        for (int left = 5; left > 0; left--) {
            due("back", x.back(), left);
        }
        due("all as ahead", x.digest(), ahead);
        CHECK.that("h(a,b)", Calls.written(x, 2).equals("h(a,b)"));
        due("f(x) is rule 0 again", x.rule(0, 1), 1);
        due("g(g(x)) is rule 1 again", x.rule(1, 1), 2);
    }

    private static void backAtMostEight() {
        TriggerMatches x = new TriggerMatches();
        x.term(0, 0, 0);
        for (int t = 1; t <= 10; t++) {
            x.term(5, t - 1, 0);
        }
        due("eight", x.told(8), 8);
        Calls.say(x, "b;!");
        due("a fault loses none", x.told(8), 8);
        for (int left = 7; left >= 0; left--) {
            due("back", x.back(), left);
        }
        due("the older ones are lost", x.back(), NO);
        due("terms of the oldest one", x.told(4), 3);
    }

    private static void toldTellsEach() {
        TriggerMatches x = Calls.with("a;b;c>d;f(x)>x;");
        x.sets(0, 1);
        x.sets(1, 8);
        x.told(9);
        x.told(-1);
        x.back();
        x.back();
        Calls.say(x, "a;b;c>d;f(x)>x;");
        CHECK.due("told", allTold(x), 2, 1, 0, 15, 2, 2, 1, 8, 1);
        due("what 9", x.told(9), BAD);
        due("what -1", x.told(-1), BAD);
        due("counted", x.told(0), 4);
    }

    private static long[] allTold(TriggerMatches x) {
        long[] told = new long[9];
        for (int what = 0; what <= 8; what++) {
            told[what] = x.told(what);
        }
        return told;
    }

    private static void digestGoesOverAll() {
        TriggerMatches x = new TriggerMatches();
        due("of a new object", x.digest(), digest(0, 0, 0, 0, 0, 0, 0, 3, 0, 0));
        Calls.say(x, "f(b)=b;f(x)>x;");
        x.sets(1, 2);
        due("of some", x.digest(), digest(0, 0, 0, 14, 2, 1, 0, 2, 1,
                1, NONE, NONE, 0, 0, 4, 0, NONE, 0, 0, 1, 1, 1, 0, 1));
        long ahead = x.digest();
        due("it changes nothing", x.digest(), ahead);
        x.type(-1);
        CHECK.that("a refusal is in it", x.digest() != ahead);
    }

    private static long digest(int... values) {
        long h = 2039;
        for (int v : values) {
            h = 31 * h + v;
        }
        return h;
    }
}
