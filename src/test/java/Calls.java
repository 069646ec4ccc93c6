/** Calls that tests make often. */
final class Calls {
    private Calls() {
    }

    /** Puts a text in place of THE TEXT. */
    static void put(TriggerMatches x, String text) {
        x.clear();
        for (int i = 0; i < text.length(); i++) {
            x.type(text.charAt(i));
        }
    }

    /** Puts a text and reads it. */
    static int say(TriggerMatches x, String text) {
        put(x, text);
        return x.reads();
    }

    /** A new object that has read some texts. */
    static TriggerMatches with(String... texts) {
        TriggerMatches x = new TriggerMatches();
        for (String text : texts) {
            if (say(x, text) < 0) {
                throw new IllegalStateException("a test's own text is faulty: " + text);
            }
        }
        return x;
    }

    static String written(TriggerMatches x, int t) {
        StringBuilder out = new StringBuilder();
        int length = x.writing(t, TriggerMatches.NONE);
        for (int k = 0; k < length; k++) {
            out.append((char) x.writing(t, k));
        }
        return out.toString();
    }

    static long[] last(TriggerMatches x) {
        return new long[] {x.last(0), x.last(1), x.last(2), x.last(3), x.last(4)};
    }

    static long[] finding(TriggerMatches x, int r, int k) {
        long[] told = new long[5];
        for (int what = 0; what < 5; what++) {
            told[what] = x.finding(r, k, what);
        }
        return told;
    }

    static long[] refusals(TriggerMatches x) {
        return new long[] {x.told(0), x.told(1), x.told(2)};
    }
}
