/** Calls that tests make often. */
final class Calls {
    private Calls() {
    }

    /** Puts a text in place of THE TEXT. */
    static void put(TriggerMatches x, String text) {
        x.clear();
        for (int i = 0; i < text.length(); i++) {
            x.type(text.charAt(i));
        }
    }

    /** Puts a text and reads it. */
    static int say(TriggerMatches x, String text) {
        put(x, text);
        return x.reads();
    }

    /** A new object that has read some texts. */
    static TriggerMatches with(String... texts) {
        TriggerMatches x = new TriggerMatches();
        for (String text : texts) {
            if (say(x, text) < 0) {
                throw new IllegalStateException("a test's own text is faulty: " + text);
            }
        }
        return x;
    }

    static String written(TriggerMatches x, int t) {
        StringBuilder out = new StringBuilder();
        int length = x.writing(t, TriggerMatches.NONE);
        for (int k = 0; k < length; k++) {
            out.append((char) x.writing(t, k));
        }
        return out.toString();
    }

    static long[] last(TriggerMatches x) {
        return new long[] {x.last(0), x.last(1), x.last(2), x.last(3), x.last(4)};
    }

    static long[] finding(TriggerMatches x, int r, int k) {
        long[] told = new long[5];
        for (int what = 0; what < 5; what++) {
            told[what] = x.finding(r, k, what);
        }
        return told;
    }

    static long[] refusals(TriggerMatches x) {
        return new long[] {x.told(0), x.told(1), x.told(2)};
    }

    /** Of a TERM: SIGN, PARTS, GENERATION, CLASS. */
    static long[] of(TriggerMatches x, int t) {
        return new long[] {x.of(t, 0), x.of(t, 1), x.of(t, 2), x.of(t, 3), x.of(t, 4)};
    }

    /** A new object with a, f(a), f(f(a)) .., so many TERMS. */
    static TriggerMatches chain(int terms) {
        TriggerMatches x = new TriggerMatches();
        for (int t = 0; t < terms; t++) {
            x.term(t == 0 ? 0 : 4, t - 1, 0);
        }
        return x;
    }

    /** The TERM of a text without blanks, which comes if it is not there. */
    static int term(TriggerMatches x, String text) {
        if (text.length() == 1) {
            return x.term("abcdfgh".indexOf(text), 0, 0);
        }
        String inside = text.substring(2, text.length() - 1);
        char sign = text.charAt(0);
        if (sign != 'h') {
            return x.term(sign == 'f' ? 4 : 5, term(x, inside), 0);
        }
        int comma = outerComma(inside);
        int one = term(x, inside.substring(0, comma));
        return x.term(6, one, term(x, inside.substring(comma + 1)));
    }

    private static int outerComma(String inside) {
        int depth = 0;
        for (int i = 0; i < inside.length(); i++) {
            char c = inside.charAt(i);
            if (c == ',' && depth == 0) {
                return i;
            }
            depth += c == '(' ? 1 : c == ')' ? -1 : 0;
        }
        throw new IllegalStateException("a test's own text is faulty: " + inside);
    }
}
