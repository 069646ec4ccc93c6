/** Compares answers with those that are due, and tells at the end how many were not. */
final class Check {
    private final String name;
    /** The sentence of the document that the next answers are due by. */
    private String sentence = "";
    private int sentences = 0;
    private int asked = 0;
    private int wrong = 0;

    Check(String name) {
        this.name = name;
    }

    /** The answers from here on are due by this sentence: where it stands, and its words. */
    void says(String where, String words) {
        sentence = " [" + where + ": " + words + "]";
        sentences++;
    }

    void due(String call, long got, long want) {
        asked++;
        if (got != want) {
            wrong++;
            System.out.println(name + sentence + ": " + call + " answered " + got + ", due is " + want);
        }
    }

    /** Several answers at once, such as the five of last. */
    void due(String call, long[] got, long... want) {
        due(call + " (how many)", got.length, want.length);
        for (int i = 0; i < Math.min(got.length, want.length); i++) {
            due(call + " [" + i + "]", got[i], want[i]);
        }
    }

    void that(String what, boolean holds) {
        due(what, holds ? 1 : 0, 1);
    }

    void end() {
        String by = sentences > 0 ? ", by " + sentences + " sentences" : "";
        System.out.println(name + ": " + (asked - wrong) + " of " + asked + " answers are as due" + by);
        if (wrong > 0) {
            System.exit(1);
        }
    }
}
