import java.util.function.IntSupplier;

/** What tests of the document's bounds ask again and again: what a call leaves behind it. */
final class Bounds {
    static final int LEAST = Integer.MIN_VALUE, MOST = Integer.MAX_VALUE;
    private static final int NO_REFUSAL = -1;

    private final Check check;

    Bounds(Check check) {
        this.check = check;
    }

    /** A call that is refused as BAD: it changes nothing but told(0), by 1. */
    void bad(TriggerMatches x, String call, IntSupplier asks) {
        changesOnlyHowOften(x, call, asks, TriggerMatches.BAD, 0);
    }

    /** A call that is refused as NO: it changes nothing but told(1), by 1. */
    void no(TriggerMatches x, String call, IntSupplier asks) {
        changesOnlyHowOften(x, call, asks, TriggerMatches.NO, 1);
    }

    /** A call that is refused as FULL: it changes nothing but told(2), by 1. */
    void full(TriggerMatches x, String call, IntSupplier asks) {
        changesOnlyHowOften(x, call, asks, TriggerMatches.FULL, 2);
    }

    /** writing has an answer of its own for what is BAD. */
    void badWriting(TriggerMatches x, String call, IntSupplier asks) {
        changesOnlyHowOften(x, call, asks, -10, 0);
    }

    /** A call that only asks, or a FAULT: nothing changes, nothing counts. */
    void asks(TriggerMatches x, String call, IntSupplier asks, int answer) {
        changesOnlyHowOften(x, call, asks, answer, NO_REFUSAL);
    }

    private void changesOnlyHowOften(TriggerMatches x, String call, IntSupplier asks, int answer, int kind) {
        long[] last = Calls.last(x);
        long more = kind == NO_REFUSAL ? 0 : weightOfTold(x, kind);
        long digest = x.digest();
        check.due(call, asks.getAsInt(), answer);
        check.that(call + " changes nothing but how often", x.digest() == digest + more);
        check.due("last behind " + call, Calls.last(x), last);
    }

    /** By how much the digest grows if told(kind) does by 1: 31 for each number that comes behind it. */
    private static long weightOfTold(TriggerMatches x, int kind) {
        int behind = 9 - kind + 5 * x.told(4) + 4 * x.told(5);
        long weight = 1;
        for (int i = 0; i < behind; i++) {
            weight *= 31;
        }
        return weight;
    }

    /** A call told S: it leaves a STATE, back leads to just what was ahead of it; in the end it is done again. */
    void leaves(TriggerMatches x, String call, IntSupplier asks, int answer) {
        int states = x.told(8);
        long digest = x.digest();
        check.due(call, asks.getAsInt(), answer);
        check.due("STATES behind " + call, x.told(8), states + 1);
        check.due("back behind " + call, x.back(), states);
        check.that("all is as ahead of " + call, x.digest() == digest);
        check.due(call + " again", asks.getAsInt(), answer);
    }
}
