/** The bounds that promises 17 to 20 and "2 THE TEXT" name: a test for each sentence. */
public final class BoundsOfTextsTest {
    private static final int NONE = TriggerMatches.NONE;
    private static final int LEAST = Bounds.LEAST, MOST = Bounds.MOST;
    private static final Check CHECK = new Check("BoundsOfTextsTest");
    private static final Bounds BOUNDS = new Bounds(CHECK);

    public static void main(String[] args) {
        typeBad();
        typeUpTo120();
        typeBadAheadOfFull();
        typeComesBehind();
        clearHowMany();
        clearLeavesNoState();
        readsHowMany();
        readsLeavesAState();
        readsLeavesTheText();
        readsFaultAnswers();
        sentenceOfATerm();
        sentenceOfAlikes();
        sentenceOfARule();
        generationZero();
        bytesThatCanStand();
        bytesThatCanStandWithLetters();
        blanksAnywhere();
        blanksAreNoFaults();
        onlyBlanks();
        faultLetterWithoutRule();
        faultLetterAlone();
        faultLetterOfRight();
        faultSeventhRule();
        faultTooManyTerms();
        faultTooManyTermsOfAlikes();
        rulesNeedNoRoom();
        faultEndsTooEarly();
        faultFirstOne();
        nothingIsDone();
        nothingIsLeftByAFault();
        nothingCounts();
        writingBad();
        writingHowMany();
        writingNotSoMany();
        writingThreeHundred();
        writingSigns();
        CHECK.end();
    }

    private static void due(String call, long got, long want) {
        CHECK.due(call, got, want);
    }

    private static void fault(TriggerMatches x, String text, int place) {
        Calls.put(x, text);
        BOUNDS.asks(x, "reads() of '" + text + "'", x::reads, -10 - place);
    }

    private static void faultOfNew(String text, int place) {
        fault(new TriggerMatches(), text, place);
    }

    // ---- promises 17 and 18

    private static void typeBad() {
        CHECK.says("Promise 17", "A byte (0 .. 127). BAD");
        TriggerMatches x = new TriggerMatches();
        x.type('a');
        BOUNDS.bad(x, "type(-1)", () -> x.type(-1));
        BOUNDS.bad(x, "type(128)", () -> x.type(128));
        BOUNDS.bad(x, "type(LEAST)", () -> x.type(LEAST));
        BOUNDS.bad(x, "type(MOST)", () -> x.type(MOST));
        BOUNDS.bad(x, "type(256 + 'b')", () -> x.type(256 + 'b'));
        x.type(';');
        due("reads(): no byte came by these", x.reads(), 1);
        due("type(0)", x.type(0), 3);
        due("type(127)", x.type(127), 4);
    }

    private static void typeUpTo120() {
        CHECK.says("Promise 17", "how many it has. FULL: 120");
        TriggerMatches x = new TriggerMatches();
        for (int n = 1; n <= 118; n++) {
            due("type(' ')", x.type(' '), n);
        }
        due("the 119th", x.type('a'), 119);
        due("the 120th", x.type(';'), 120);
        BOUNDS.full(x, "a 121st", () -> x.type('!'));
        BOUNDS.full(x, "a blank as 121st", () -> x.type(' '));
        due("told(3)", x.told(3), 120);
        due("reads(): all 120, none behind", x.reads(), 1);
    }

    private static void typeBadAheadOfFull() {
        CHECK.says("The block behind 2", "Refused .. the first of: BAD, NO, FULL");
        TriggerMatches x = new TriggerMatches();
        Calls.put(x, " ".repeat(120));
        BOUNDS.bad(x, "type(128) with no room", () -> x.type(128));
        BOUNDS.bad(x, "type(-1) with no room", () -> x.type(-1));
        BOUNDS.full(x, "type(127) with no room", () -> x.type(127));
    }

    private static void typeComesBehind() {
        CHECK.says("Promise 17", "comes behind THE TEXT");
        TriggerMatches x = new TriggerMatches();
        due("reads()", Calls.say(x, "f(a)"), -14);
        due("type(';')", x.type(';'), 5);
        due("reads() then", x.reads(), 1);
        due("told(8): typing leaves no STATE", x.told(8), 1);
    }

    private static void clearHowMany() {
        CHECK.says("Promise 18", "THE TEXT is empty: how many it had");
        TriggerMatches x = new TriggerMatches();
        due("clear() of none", x.clear(), 0);
        Calls.put(x, "a;");
        due("clear()", x.clear(), 2);
        due("told(3)", x.told(3), 0);
        due("reads() of none", x.reads(), -10);
        Calls.put(x, "b".repeat(120));
        due("clear() of all", x.clear(), 120);
        due("type('c')", x.type('c'), 1);
        due("type(';')", x.type(';'), 2);
        due("reads()", x.reads(), 1);
        due("c is the only TERM", x.told(4) * 10 + x.of(0, 0), 12);
    }

    private static void clearLeavesNoState() {
        CHECK.says("Promise 18", "no S");
        TriggerMatches x = Calls.with("f(a);f(x)>x;");
        x.clear();
        due("told(8)", x.told(8), 1);
        due("told(4)", x.told(4), 2);
        due("told(5)", x.told(5), 1);
    }

    // ---- promise 19

    private static void readsHowMany() {
        CHECK.says("Promise 19", "SENTENCES are done: how many; 120 bytes");
        TriggerMatches x = new TriggerMatches();
        due("1", Calls.say(x, "a;"), 1);
        due("3, of each kind", Calls.say(x, "a;b=f(c);g(x)>x;"), 3);
        due("60, as many as there is room for", Calls.say(x, "a;".repeat(60)), 60);
        due("the same one again: no more TERMS", x.told(4), 4);
        String deep = "f(".repeat(39) + "a" + ")".repeat(39) + " ;";
        due("120 bytes", deep.length() + Calls.say(x, deep), 121);
    }

    private static void readsLeavesAState() {
        CHECK.says("Promise 19", "S");
        TriggerMatches x = Calls.with("f(a);f(x)>g(b);");
        x.round();
        Calls.put(x, "c;b=a;g(x)>x;");
        BOUNDS.leaves(x, "reads()", x::reads, 3);
        Calls.put(x, "a;");
        BOUNDS.leaves(x, "reads() of what is there", x::reads, 1);
    }

    private static void readsLeavesTheText() {
        CHECK.says("Promise 19", "SENTENCES are done: THE TEXT stays");
        TriggerMatches x = Calls.with("a>b;");
        due("told(3)", x.told(3), 4);
        due("reads() again", x.reads(), 1);
        due("told(5)", x.told(5), 2);
        x.back();
        x.back();
        due("told(3) behind back()", x.told(3), 4);
        x.anew();
        due("told(3) behind anew()", x.told(3), 4);
        fault(x, "a!", 1);
        due("told(3) behind a FAULT", x.told(3), 2);
    }

    private static void readsFaultAnswers() {
        CHECK.says("Promise 19", "-10 less the FAULT: -10 .. -130");
        faultOfNew("", 0);
        faultOfNew(";", 0);
        faultOfNew("a!", 1);
        faultOfNew(" ".repeat(119) + "!", 119);
        faultOfNew(" ".repeat(119) + "a", 120);
        faultOfNew("f(".repeat(60), 120);
        faultOfNew("a;".repeat(59) + "a!", 119);
    }

    // ---- 2 THE TEXT: sentences

    private static void sentenceOfATerm() {
        CHECK.says("2 THE TEXT", "a TERM (it and all it is made of come)");
        TriggerMatches x = Calls.with("h(f(b),g(h(a,b)));");
        String[] come = {"b", "f(b)", "a", "h(a,b)", "g(h(a,b))", "h(f(b),g(h(a,b)))"};
        due("told(4)", x.told(4), come.length);
        for (int t = 0; t < come.length; t++) {
            CHECK.that(come[t] + " is TERM " + t, Calls.written(x, t).equals(come[t]));
        }
        due("classes(): each by itself", x.classes(), 6);
    }

    private static void sentenceOfAlikes() {
        CHECK.says("2 THE TEXT", "TERM = TERM (so both; they become ALIKE)");
        TriggerMatches x = Calls.with("f(b)=g(a);");
        // b f(b) a g(a)
        due("told(4)", x.told(4), 4);
        due("same(1, 3)", x.same(1, 3), 1);
        due("same(0, 2)", x.same(0, 2), 0);
        due("a = a", Calls.say(x, "a=a;"), 1);
        due("classes()", x.classes(), 3);
        due("what follows", Calls.say(x, "f(a);a=b;"), 2);
        due("f(a) is ALIKE f(b)", x.same(4, 1), 1);
    }

    private static void sentenceOfARule() {
        CHECK.says("2 THE TEXT", "LEFT > RIGHT (a RULE comes)");
        TriggerMatches x = Calls.with("h(f(a),x)>g(x);");
        due("told(5)", x.told(5), 1);
        due("no TERM comes by it", x.told(4), 0);
        due("nothing is DONE by it", Calls.say(x, "h(f(a),b);"), 1);
        due("told(4)", x.told(4), 4);
        due("round()", x.round(), 1);
        CHECK.that("g(b)", Calls.written(x, 4).equals("g(b)"));
        due("LEFT without LETTERS", Calls.say(x, "a>b;"), 1);
        due("RIGHT a LETTER alone", Calls.say(x, "f(z)>z;"), 1);
    }

    private static void generationZero() {
        CHECK.says("2 THE TEXT", "all these have GENERATION 0 then, also those that were there");
        String[] texts = {"g(b);", "g(b)=a;", "a=g(b);", "f(g(b));", "g(b)=g(b);"};
        for (String text : texts) {
            TriggerMatches x = Calls.with("f(a);f(x)>h(g(b),c);");
            x.round();
            // a f(a) b g(b) c h(g(b),c), the last four of GENERATION 1
            Calls.say(x, text);
            due("b by " + text, x.of(2, 3), 0);
            due("g(b) by " + text, x.of(3, 3), 0);
            due("c, which is not in it", x.of(4, 3), 1);
            due("h(g(b),c), which is not in it", x.of(5, 3), 1);
        }
        TriggerMatches y = Calls.with("f(a);f(x)>h(g(b),c);");
        y.round();
        Calls.say(y, "b>c;g(b)>c;");
        due("b, which a RULE alone tells", y.of(2, 3), 1);
        due("c, which a RULE alone tells", y.of(4, 3), 1);
    }

    // ---- 2 THE TEXT: bytes

    /** Behind a text each byte in turn: some end SENTENCES, some can stand, and all others are the FAULT. */
    private static void bytesBehind(String text, String end, int sentences, String stand) {
        for (int c = 0; c <= 127; c++) {
            TriggerMatches x = new TriggerMatches();
            Calls.put(x, text);
            x.type(c);
            int place = stand.indexOf(c) >= 0 ? text.length() + 1 : text.length();
            due("reads() of '" + text + "' and " + c, x.reads(), end.indexOf(c) >= 0 ? sentences : -10 - place);
        }
    }

    private static void bytesThatCanStand() {
        CHECK.says("2 THE TEXT", "FAULT: the place of the first byte that can not stand there");
        bytesBehind("", "", 0, " abcdfghxyz");
        bytesBehind("a", ";", 1, " =>");
        bytesBehind("a;", " ", 1, "abcdfghxyz");
        bytesBehind("f", "", 0, " (");
        bytesBehind("g", "", 0, " (");
        bytesBehind("h", "", 0, " (");
        bytesBehind("f(", "", 0, " abcdfghxyz");
        bytesBehind("h(", "", 0, " abcdfghxyz");
        bytesBehind("f(a", "", 0, " )");
        bytesBehind("g(f(a)", "", 0, " )");
        bytesBehind("h(a", "", 0, " ,");
        bytesBehind("h(f(a)", "", 0, " ,");
        bytesBehind("h(a,", "", 0, " abcdfghxyz");
        bytesBehind("h(a,b", "", 0, " )");
        bytesBehind("f(a)", ";", 1, " =>");
        bytesBehind("h(a,b)", ";", 1, " =>");
        bytesBehind("a=", "", 0, " abcdfghxyz");
        bytesBehind("a=b", ";", 1, " ");
        bytesBehind("a;b=f(a)", ";", 2, " ");
    }

    private static void bytesThatCanStandWithLetters() {
        CHECK.says("2 THE TEXT", "FAULT: the place of the first byte that can not stand there, in RULES");
        bytesBehind("x", "", 0, " ");
        bytesBehind("f(x", "", 0, " )");
        bytesBehind("h(x", "", 0, " ,");
        bytesBehind("f(x)", "", 0, " >");
        bytesBehind("h(a,y)", "", 0, " >");
        bytesBehind("a>", "", 0, " abcdfgh");
        bytesBehind("f(x)>", "", 0, " abcdfghx");
        bytesBehind("f(y)>", "", 0, " abcdfghy");
        bytesBehind("h(z,x)>", "", 0, " abcdfghxz");
        bytesBehind("h(z,h(y,x))>f(", "", 0, " abcdfghxyz");
        bytesBehind("f(x)>h(a,", "", 0, " abcdfghx");
        bytesBehind("a>b", ";", 1, " ");
        bytesBehind("f(x)>x", ";", 1, " ");
        bytesBehind("f(x)>f(x", "", 0, " )");
    }

    private static final String PLAIN = "h(f(a),g(b))=c;h(x,f(y))>g(y);d;";

    private static void blanksAnywhere() {
        CHECK.says("2 THE TEXT", "Blanks (32) may stand anywhere");
        TriggerMatches plain = Calls.with(PLAIN);
        StringBuilder all = new StringBuilder(" ");
        for (int at = 0; at <= PLAIN.length(); at++) {
            TriggerMatches x = new TriggerMatches();
            due("a blank at " + at, Calls.say(x, PLAIN.substring(0, at) + " " + PLAIN.substring(at)), 3);
            x.clear();
            plain.clear();
            CHECK.that("as without the blank at " + at, x.digest() == plain.digest());
            all.append(at < PLAIN.length() ? PLAIN.substring(at, at + 1) + "  " : "");
        }
        due("blanks everywhere", Calls.say(new TriggerMatches(), all.toString()), 3);
    }

    private static void blanksAreNoFaults() {
        CHECK.says("2 THE TEXT", "FAULT: the place of the byte, behind blanks");
        faultOfNew("  !", 2);
        faultOfNew("a   b;", 4);
        faultOfNew("f  a;", 3);
        faultOfNew("f(a   ;", 6);
        faultOfNew("h(a  );", 5);
        faultOfNew("a;  ;", 4);
        faultOfNew("a =  ;", 5);
        faultOfNew("a\t;", 1);
        faultOfNew("a\n;", 1);
        faultOfNew("a;\u0000", 2);
    }

    private static void onlyBlanks() {
        CHECK.says("2 THE TEXT", "the TEXT's length, if it ends too early: blanks alone");
        faultOfNew(" ", 1);
        faultOfNew(" ".repeat(120), 120);
        due("behind the last ; it does not", Calls.say(new TriggerMatches(), "a;   "), 1);
        faultOfNew("a;  b  ", 7);
    }

    private static void faultLetterWithoutRule() {
        CHECK.says("2 THE TEXT", "a LETTER in a SENTENCE that has no >: where the = or ; is");
        faultOfNew("x;", 1);
        faultOfNew("y ;", 2);
        faultOfNew("z=a;", 1);
        faultOfNew("f(x);", 4);
        faultOfNew("h(a,g(z))  ;", 11);
        faultOfNew("f(x)=a;", 4);
        faultOfNew("f(x) =a;", 5);
        faultOfNew("f(x)=x;", 4);
        faultOfNew("a=x;", 3);
        faultOfNew("a=h(b,f(y)) ;", 12);
        faultOfNew("b;a;x;", 5);
        faultOfNew("f(x)>x;f(x);", 11);
    }

    private static void faultLetterAlone() {
        CHECK.says("2 THE TEXT", "LEFT a LETTER alone: where the > is");
        faultOfNew("x>a;", 1);
        faultOfNew("y>y;", 1);
        faultOfNew("z  >a;", 3);
        faultOfNew(" x>x;", 2);
        faultOfNew("a;f(x)>x;x>a;", 10);
        due("a sign alone may be LEFT", Calls.say(new TriggerMatches(), "a>b;"), 1);
        due("a LETTER with a sign may be LEFT", Calls.say(new TriggerMatches(), "f(x)>b;"), 1);
    }

    private static void faultLetterOfRight() {
        CHECK.says("2 THE TEXT", "a LETTER of RIGHT that is not in LEFT: its place");
        faultOfNew("f(x)>y;", 5);
        faultOfNew("f(x)>z;", 5);
        faultOfNew("f(y)>x;", 5);
        faultOfNew("a>x;", 2);
        faultOfNew("h(x,z)>h(x,y);", 11);
        faultOfNew("h(x,y)>h(y, z);", 12);
        faultOfNew("f(x)>h(x,f(f(y)));", 13);
        faultOfNew("f(x)>x;f(y)>x;", 12);
        due("each of LEFT may", Calls.say(new TriggerMatches(), "h(x,h(y,z))>h(z,h(y,x));"), 1);
        due("not each must", Calls.say(new TriggerMatches(), "h(x,h(y,z))>a;"), 1);
    }

    private static void faultSeventhRule() {
        CHECK.says("2 THE TEXT", "a 7th RULE: the >");
        faultOfNew("a>a;".repeat(7), 25);
        due("six are none too many", Calls.say(new TriggerMatches(), "a>a;".repeat(6)), 6);
        TriggerMatches x = Calls.with("a>a;".repeat(5));
        fault(x, "a>a;f(x) >x;", 9);
        due("the 6th one", Calls.say(x, "a>a;"), 1);
        fault(x, "f(x)  >x;", 6);
        fault(x, "f(x)>!", 4);
        fault(x, "b;a>a;", 3);
        due("told(5)", x.told(5), 6);
        due("TERMS may come yet", Calls.say(x, "b;a=b;"), 2);
        x.drop(2);
        fault(x, "a>a;a>a;", 5);
        due("one may come again", Calls.say(x, "a>a;"), 1);
    }

    private static void faultTooManyTerms() {
        CHECK.says("2 THE TEXT", "SENTENCES by which there would be more than 50 TERMS: their ;");
        TriggerMatches x = Calls.chain(48);
        fault(x, "h(b,c);", 6);
        fault(x, "h(b,c)  ;", 8);
        fault(x, "b;c;d;", 5);
        fault(x, "b;c;a;f(d);a;", 10);
        fault(x, "b;h(b,c)=a;", 10);
        due("told(4)", x.told(4), 48);
        due("just 50", Calls.say(x, "h(b,b);f(f(a));"), 2);
        due("told(4)", x.told(4), 50);
        fault(x, "c;", 1);
        fault(x, "f(c) ;", 5);
        due("what is there", Calls.say(x, "h(b,b)=f(a);b;"), 2);
        due("told(4)", x.told(4), 50);
    }

    private static void faultTooManyTermsOfAlikes() {
        CHECK.says("2 THE TEXT", "SENTENCES by which there would be more than 50 TERMS: TERM = TERM, both");
        TriggerMatches x = Calls.chain(48);
        fault(x, "f(b)=c;", 6);
        fault(x, "b=f(c);", 6);
        fault(x, "f(c)=f(b)   ;", 12);
        fault(x, "h(b,c)=!", 7);
        fault(x, "h(b,c)", 6);
        due("just 50", Calls.say(x, "b=c;"), 1);
        due("classes()", x.classes(), 49);
        fault(x, "a=d;", 3);
        fault(x, "d=a;", 3);
        due("what is there", Calls.say(x, "c=a;"), 1);
    }

    private static void rulesNeedNoRoom() {
        CHECK.says("2 THE TEXT", "more than 50 TERMS: RULES are none");
        TriggerMatches x = Calls.chain(50);
        due("RULES with new signs", Calls.say(x, "d>c;h(x,y)>h(b,g(x));"), 2);
        due("told(4)", x.told(4), 50);
        due("told(5)", x.told(5), 2);
    }

    private static void faultEndsTooEarly() {
        CHECK.says("2 THE TEXT", "the TEXT's length, if it ends too early (an empty one, too)");
        for (int n = 0; n < PLAIN.length(); n++) {
            if (n > 0 && PLAIN.charAt(n - 1) == ';') {
                due("SENTENCES of " + PLAIN.substring(0, n), Calls.with(PLAIN.substring(0, n)).told(8), 1);
            } else {
                faultOfNew(PLAIN.substring(0, n), n);
            }
        }
        fault(Calls.with("a;"), "", 0);
    }

    private static void faultFirstOne() {
        CHECK.says("2 THE TEXT", "FAULT: the place of the first byte");
        faultOfNew("!;x;f(;", 0);
        faultOfNew("a;x;f(;!", 3);
        faultOfNew("a;f(;x;!", 4);
        faultOfNew("x>!", 1);
        faultOfNew("f(x)=!", 4);
        faultOfNew("f(x)>y!", 5);
    }

    private static void nothingIsDone() {
        CHECK.says("2 THE TEXT", "If there is one, nothing is done");
        TriggerMatches x = Calls.with("f(a);b;f(x)>g(c);");
        x.round();
        // a f(a) b c g(c), the last two of GENERATION 1
        fault(x, "d!", 1);
        fault(x, "d;g(d)=a;!", 9);
        fault(x, "a=b;f(b);c", 10);
        fault(x, "g(c);g(c)=a;x;", 13);
        fault(x, "g(x)>x;a>b;x>a;", 12);
        fault(x, "a>b;a>b;a>b;a>b;a>b;a>b;", 21);
        due("same(0, 2)", x.same(0, 2), 0);
        due("GENERATION of c", x.of(3, 3), 1);
        due("round(): the RULE is as it was", x.round(), 0);
        CHECK.due("last", Calls.last(x), 1, 0, 0, 0, 0);
        due("a TERM comes as the next one", x.term(3, 0, 0), 5);
    }

    private static void nothingIsLeftByAFault() {
        CHECK.says("2 THE TEXT", "If there is one, nothing is done: the next TEXT is read as if there had been none");
        String[] faulty = {"", "f(", "h(a,", "h(h(f(", "h(a", "a=", "a=f(", "h(x,y)>", "h(x,y)>h(x,", "x", "f(x)=", "a;b;f("};
        for (String text : faulty) {
            TriggerMatches x = new TriggerMatches();
            fault(x, text, text.length() - (text.equals("f(x)=") ? 1 : 0));
            due("a TERM behind '" + text + "'", Calls.say(x, "h(f(a),b);a=b;"), 2);
            due("told(4)", x.told(4), 4);
            fault(x, text, text.length() - (text.equals("f(x)=") ? 1 : 0));
            due("a RULE behind '" + text + "'", Calls.say(x, "f(y)>y;"), 1);
            due("told(5)", x.told(5), 1);
            fault(x, "a>x;", 2);
        }
    }

    private static void nothingCounts() {
        CHECK.says("The block behind 2", "By a FAULT nothing counts");
        TriggerMatches x = Calls.chain(50);
        Calls.say(x, "a>a;".repeat(6));
        fault(x, "b;", 1);
        fault(x, "a>a;", 1);
        fault(x, "", 0);
        fault(x, "x;", 1);
        CHECK.due("told(0) .. told(2)", Calls.refusals(x), 0, 0, 0);
        due("told(8)", x.told(8), 8);
    }

    // ---- promise 20

    private static void writingBad() {
        CHECK.says("Promise 20", "BAD: -10");
        TriggerMatches x = Calls.with("f(a);");
        BOUNDS.badWriting(x, "writing(-1, 0)", () -> x.writing(-1, 0));
        BOUNDS.badWriting(x, "writing(2, 0)", () -> x.writing(2, 0));
        BOUNDS.badWriting(x, "writing(-1, NONE)", () -> x.writing(-1, NONE));
        BOUNDS.badWriting(x, "writing(2, NONE)", () -> x.writing(2, NONE));
        BOUNDS.badWriting(x, "writing(LEAST, 0)", () -> x.writing(LEAST, 0));
        BOUNDS.badWriting(x, "writing(MOST, 0)", () -> x.writing(MOST, 0));
        BOUNDS.badWriting(x, "writing(0, -2)", () -> x.writing(0, -2));
        BOUNDS.badWriting(x, "writing(0, LEAST)", () -> x.writing(0, LEAST));
        BOUNDS.badWriting(x, "writing(2, -2): once", () -> x.writing(2, -2));
        BOUNDS.badWriting(x, "writing(2, MOST), not -5", () -> x.writing(2, MOST));
        BOUNDS.asks(x, "writing(0, 0)", () -> x.writing(0, 0), 'a');
        BOUNDS.asks(x, "writing(1, 0)", () -> x.writing(1, 0), 'f');
    }

    private static void writingHowMany() {
        CHECK.says("Promise 20", "How many bytes a TERM has (k = NONE)");
        TriggerMatches x = Calls.with("h(f(a),g(h(b,c)));");
        int[] want = {1, 4, 1, 1, 6, 9, 17};
        for (int t = 0; t < want.length; t++) {
            int u = t;
            BOUNDS.asks(x, "writing(" + t + ", NONE)", () -> x.writing(u, NONE), want[t]);
        }
        due("NONE is -1", x.writing(6, -1), 17);
    }

    private static void writingNotSoMany() {
        CHECK.says("Promise 20", "the k-th; -5: not so many");
        TriggerMatches x = Calls.with("g(a);");
        String text = "g(a)";
        for (int k = 0; k < 4; k++) {
            due("writing(1, " + k + ")", x.writing(1, k), text.charAt(k));
        }
        BOUNDS.asks(x, "writing(1, 4)", () -> x.writing(1, 4), -5);
        BOUNDS.asks(x, "writing(1, 300)", () -> x.writing(1, 300), -5);
        BOUNDS.asks(x, "writing(1, MOST)", () -> x.writing(1, MOST), -5);
        BOUNDS.asks(x, "writing(0, 1)", () -> x.writing(0, 1), -5);
    }

    private static String h(String one, String other) {
        return "h(" + one + "," + other + ")";
    }

    private static String twice(String one) {
        return h(one, one);
    }

    private static void writingThreeHundred() {
        CHECK.says("Promise 20", "300 at most, the rest left out");
        String of15 = h("f(f(a))", "f(a)");
        String of34 = twice(of15);
        String of72 = twice(of34);
        String of148 = twice(of72);
        String of147 = h(of72, h(of34, h(of15, h("f(a)", "h(a,a)"))));
        String of149 = h(of72, h(of34, h(of15, twice("h(a,a)"))));
        String[] texts = {h(of148, of147), twice(of148), h(of148, of149), twice(of149), twice(twice(of149))};
        int[] lengths = {299, 300, 301, 302, 608};
        for (int i = 0; i < texts.length; i++) {
            due("a test's own text", texts[i].length(), lengths[i]);
            writtenUpTo300(texts[i]);
        }
    }

    /** A TERM that is built of TERMS a level at a time, each once, to spare calls. */
    private static void writtenUpTo300(String text) {
        TriggerMatches x = new TriggerMatches();
        int t = Calls.term(x, text);
        int length = Math.min(300, text.length());
        TriggerMatches y = new TriggerMatches();
        for (int i = 0; i <= t; i++) {
            y.term(x.of(i, 0), x.of(i, 1), x.of(i, 2));
        }
        due("writing(t, NONE) of " + text.length(), y.writing(t, NONE), length);
        for (int k = 0; k < length; k++) {
            due("writing(t, " + k + ") of " + text.length(), y.writing(t, k), text.charAt(k));
        }
        due("writing(t, " + length + ") of " + text.length(), y.writing(t, length), -5);
        due("writing(t, 300) of " + text.length(), y.writing(t, 300), -5);
        due("writing(t, 301) of " + text.length(), y.writing(t, 301), -5);
        due("told(0)", y.told(0), 0);
    }

    private static void writingSigns() {
        CHECK.says("Promise 20", "a TERM, written out without blanks: just it, not one that is ALIKE");
        String[] texts = {"a", "b", "c", "d", "f(a)", "g(d)", "h(b,c)", "h(h(c,b),f(g(a)))"};
        TriggerMatches x = new TriggerMatches();
        int[] terms = new int[texts.length];
        for (int i = 0; i < texts.length; i++) {
            terms[i] = Calls.term(x, texts[i]);
        }
        x.alike(terms[7], 0);
        x.alike(terms[6], 1);
        for (int i = 0; i < texts.length; i++) {
            CHECK.that(texts[i], Calls.written(x, terms[i]).equals(texts[i]));
        }
        TriggerMatches y = Calls.with("a=b;c=d;h(b,f(d));");
        CHECK.that("PARTS as they are, too", Calls.written(y, 5).equals("h(b,f(d))"));
    }
}
